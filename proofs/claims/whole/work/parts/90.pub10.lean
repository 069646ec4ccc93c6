/-! ===== 90: TriggerMatches: round, rounds ===== -/
noncomputable def rndX (A : AS) : TS × (Nat → Int) × Int := runX A.1.2 (ORD A.2.2.1.1 (tdsX A.1.1 A.1.2 A.2.2.1.2)) A.1.1 (fun j => if j = 1 then (lateX A.1.1 A.1.2 A.2.2.1.2 A.1.2.length : Int) else 0) 0
noncomputable def aRnd (A : AS) : AS := (((rndX A).1, A.1.2), A.2.1, A.2.2.1, A.2.2.2.1, (rndX A).2.1, A.2.2.2.2.2)
noncomputable def spRound (A : AS) : Int × AS := ((rndX (aKeep A)).2.2, aRnd (aKeep A))
noncomputable def rndsX : Nat → AS → Nat × AS
  | 0, A => (0, A)
  | f + 1, A => if 0 < (rndX A).2.2 then ((rndsX f (aRnd A)).1 + 1, (rndsX f (aRnd A)).2) else (0, aRnd A)
noncomputable def spRounds (A : AS) (n : Int) : Int × AS := if 1 ≤ n ∧ n ≤ 9 then (((rndsX n.toNat (aKeep A)).1 : Int), (rndsX n.toNat (aKeep A)).2) else (-2, aRf A 0)
theorem ORD_le (od : Int) (T : List E6) : (ORD od T).length ≤ T.length := by
  unfold ORD
  refine Nat.le_trans (List.length_filterMap_le _ _) ?_
  rw [SQK_len]
  refine Nat.le_trans List.countP_le_length ?_
  rw [List.length_range]
  exact Nat.le_refl _
theorem doX_u {rl : RuL} {e : E6} {X : TS} {C : Nat → Int} : (doX rl e X C).2.2 = 0 ∨ (doX rl e X C).2.2 = 1 := by
  unfold doX
  cases bW (ltOf X.1 X.2.2.2.2.2 e.2.1 e.2.2.1 e.2.2.2.1) e.2.2.2.2.2 (rlR rl e.1.toNat) [] X [] with
  | none => exact Or.inl rfl
  | some q =>
    simp only
    split
    · exact Or.inr rfl
    · exact Or.inl rfl
theorem runX_b {rl : RuL} : ∀ (es : List E6) (X : TS) (C : Nat → Int) (u : Int), u ≤ (runX rl es X C u).2.2 ∧ (runX rl es X C u).2.2 ≤ u + es.length := by
  intro es
  induction es with
  | nil => intro X C u; simp [runX]
  | cons e es ih =>
    intro X C u
    have := ih (doX rl e X C).1 (doX rl e X C).2.1 (u + (doX rl e X C).2.2)
    have hu := doX_u (rl := rl) (e := e) (X := X) (C := C)
    simp only [runX, List.length_cons]
    omega
section S90
variable {S : tmS} {I : Nat → Nat → Int} {L : Nat → Nat → Int64}
theorem CR.rnd_b {m : Nat} {A : AS} (h : CR S I L m A) : 0 ≤ (rndX A).2.2 ∧ (rndX A).2.2 ≤ 1200 := by
  have hb := runX_b (rl := A.1.2) (ORD A.2.2.1.1 (tdsX A.1.1 A.1.2 A.2.2.1.2)) A.1.1 (fun j => if j = 1 then (lateX A.1.1 A.1.2 A.2.2.1.2 A.1.2.length : Int) else 0) 0
  have hT := (h.2.1.tds A.2.2.1.2).1
  have hl := TDS_len I (prS S) (lfS S I) A.1.1.1 A.2.2.1.2 A.1.2.length
  have h6 := h.2.1.2.2.2.2.1.2.1
  have hln := ORD_le A.2.2.1.1 (tdsX A.1.1 A.1.2 A.2.2.1.2)
  unfold rndX
  rw [hT] at hl
  omega
theorem c_runA {m : Nat} {A : AS} (h : CR S I L m A) : tmC yX3_run kX3_run 10 0 0 [tR 149, tI A.2.2.1.1, tI A.2.2.1.2] (S, I, L) (fun q h' => q = some (tI (rndX A).2.2) ∧ ∃ I2 L2, h' = (S, I2, L2) ∧ CR S I2 L2 m (aRnd A) ∧ MFr S I S I2) := by
  have hn := h.2.1
  have hrl := hn.2.2.2.2.1
  obtain ⟨w1, w2, w3, w4⟩ := hrl.ws
  obtain ⟨us, hus⟩ := hn.2.2.2.1
  have m1 := h.2.2.2.2.1
  have m2 := h.2.2.2.2.2.1
  refine (c_run h.1 hn.tinv hus w2 w3 A.2.2.1.1 A.2.2.1.2 ⟨by omega, by omega⟩ m2.2 hn.2.2.2.2.2).weaken (fun q h' hq => ?_)
  obtain ⟨I2, L2, n2, u2, C, rfl, rfl, f, h143, ht2, hpl2, hle, c0, c1, c2, c3, c4, hrun⟩ := hq
  rw [(hn.tds A.2.2.1.2).1] at hrun
  rw [(hn.tds A.2.2.1.2).2] at c1
  have hts := hn.1.ts
  have hXok := hn.2.1
  obtain ⟨r1, r2, r3, r4, r5⟩ := run_link w1 w4 (ORD A.2.2.1.1 (tdsX A.1.1 A.1.2 A.2.2.1.2)) A.1.1 (tsOf I A.1.1.1) (tsOf I2 n2) (fun j => if j = 1 then (lateX A.1.1 A.1.2 A.2.2.1.2 A.1.2.length : Int) else 0) C (I2 154) 0 u2 hXok (hXok.1.cg hts) hts (fun e he => hn.eg m2.2.2 (ORD_mem he)) (fun j hj => by
    have : j = 0 ∨ j = 1 ∨ j = 2 ∨ j = 3 ∨ j = 4 := by omega
    rcases this with rfl | rfl | rfl | rfl | rfl
    · exact c0
    · exact c1
    · exact c2
    · exact c3
    · exact c4) hrun
  have r1 : TsEq (rndX A).1 (tsOf I2 n2) := r1
  have r2 : ∀ j, j < 5 → I2 154 j = (rndX A).2.1 j := r2
  have r4 : XOK (rndX A).1 := r4
  have en : n2 = (rndX A).1.1 := r1.1
  refine ⟨by rw [r3]; rfl, I2, L2, rfl, ?_, fun a a1 a2 => f.1 a (by omega)⟩
  have pf : PatFr S I S I2 := ⟨Nat.le_refl _, fun a a1 _ => ⟨rfl, rfl, rfl, f.1 a (by omega)⟩⟩
  obtain ⟨d1, d2, d3, d4, d5⟩ := h
  refine ⟨d1, ⟨⟨?_, ?_⟩, r4, ?_, hpl2, hrl.pf pf (by rw [f.1 1 (by omega)]) (fun _ _ => rfl), fun x _ hx => ?_⟩, d3.fr pf (fun a a1 a2 => f.1 a (by omega)) (fun _ _ _ => rfl), d4, ?_⟩
  · show I2 2 0 = ((rndX A).1.1 : Int)
    rw [← en]; exact ht2.1
  · intro t ht; exact r1.2 t ht
  · show TabOK (rndX A).1.1 _ _ _ _ _
    rw [← en]; exact ht2.2.2.2.2.1
  · rw [h143] at hx; omega
  · obtain ⟨k1, k2, k3, k4, k5, k6⟩ := d5
    exact ⟨by rw [f.1 0 (by omega)]; exact k1, by rw [f.1 0 (by omega)]; exact k2, fun j hj => by rw [f.1 167 (by omega)]; exact k3 j hj, r2, by rw [f.1 155 (by omega), f.1 156 (by omega)]; exact k5, by rw [f.1 155 (by omega)]; exact k6⟩
set_option maxRecDepth 20000 in
theorem c_round {m : Nat} {A : AS} (h : CR S I L m A) : tmC yX11_round kX11_round 11 0 0 [tR 0] (S, I, L) (CPost S I (m + 1) (tI (spRound A).1) (spRound A).2) := by
  refine tmC.mk (lv := [some (tR 0)]) 0 ⟨rfl, by decide +kernel, by decide⟩ rfl rfl ?_
  have hL := h.1
  have o0 := oX0 hL
  have r0_0 := rX0_0 hL
  have r0_1 := rX0_1 hL
  have r0_2 := rX0_2 hL
  have r0_3 := rX0_3 hL
  have r0_4 := rX0_4 hL
  have r0_5 := rX0_5 hL
  have r0_6 := rX0_6 hL
  have r0_7 := rX0_7 hL
  have r0_8 := rX0_8 hL
  have o1 := oX1 hL
  have r1_0 := rX1_0 hL
  have r1_1 := rX1_1 hL
  have r1_3 := rX1_3 hL
  have o14 := oX14 hL
  have r14_0 := rX14_0 hL
  have hk := c_keepA h
  have rest : ∀ (S' : tmS) (I' : Nat → Nat → Int), CR S' I' L m (aKeep A) → MFr S I S' I' → tmW kX11_round 11 0 0 11 [some (tR 0)] [] (S', I', L) (CPost S I (m + 1) (tI (spRound A).1) (spRound A).2) := by
    intro S' I' q1 q2
    have hL := q1.1
    have o0 := oX0 hL
    have r0_0 := rX0_0 hL
    have r0_1 := rX0_1 hL
    have r0_2 := rX0_2 hL
    have r0_3 := rX0_3 hL
    have r0_4 := rX0_4 hL
    have r0_5 := rX0_5 hL
    have r0_6 := rX0_6 hL
    have r0_7 := rX0_7 hL
    have r0_8 := rX0_8 hL
    have o149 := oX149 hL
    have r149_0 := rX149_0 hL
    have r149_1 := rX149_1 hL
    have r149_2 := rX149_2 hL
    have r149_3 := rX149_3 hL
    have r149_4 := rX149_4 hL
    have r149_5 := rX149_5 hL
    have r149_6 := rX149_6 hL
    have r149_7 := rX149_7 hL
    have m1 := q1.2.2.2.2.1.1
    have m2 := q1.2.2.2.2.2.1.1
    have hr := c_runA q1
    refine wa_aload_n dX11_round_11 rfl ?_
    refine wt_getR dX11_round_12 FX11_57 (by assumption) (by assumption) ?_
    refine wa_aload_n dX11_round_15 rfl ?_
    refine wt_getI dX11_round_16 FX11_81 (by assumption) ?_
    try first | rw [m1] | rw [m2]
    refine wa_aload_n dX11_round_19 rfl ?_
    refine wt_getI dX11_round_20 FX11_85 (by assumption) ?_
    try first | rw [m1] | rw [m2]
    refine wa_callV (ci := 3) dX11_round_23 KX3_run LX11_206 ⟨_, _, rfl, by decide⟩ o149 (hr) (by decide) rfl (Nat.le_of_ble_eq_true rfl) rfl rfl (fun r h' hq => ?_)
    obtain ⟨rfl, I2, L2, rfl, s1, s2⟩ := hq
    refine wa_ireturn dX11_round_26 rfl ?_
    exact ⟨rfl, S', I2, L2, rfl, s1.up (by omega), q2.trans' s2⟩
  refine wa_aload_n dX11_round_0 rfl ?_
  refine wt_getR dX11_round_1 FX11_19 (by assumption) (by assumption) ?_
  refine wa_aload_n dX11_round_4 rfl ?_
  refine wt_getR dX11_round_5 FX11_10 (by assumption) (by assumption) ?_
  refine wa_callV (ci := 7) dX11_round_8 KX7_keep LX11_105 ⟨_, _, rfl, by decide⟩ o14 (hk) (by decide) rfl (Nat.le_of_ble_eq_true rfl) rfl rfl (fun r h' hq => ?_)
  obtain ⟨rfl, S', I', rfl, q1, q2, q3, q4, q5⟩ := hq
  exact rest S' I' q1 q2
set_option maxRecDepth 20000 in
theorem rounds_loop : ∀ (f c n : Nat) (S : tmS) (I : Nat → Nat → Int) (L : Nat → Nat → Int64) (m : Nat) (A : AS), CR S I L m A → c + f = n → n ≤ 9 → tmW kX11_rounds 11 0 0 31 [some (tR 0), some (tI n), some (tI c)] [] (S, I, L) (NPost S I m ((c + (rndsX f A).1 : Nat) : Int) (rndsX f A).2) := by
  intro f
  induction f with
  | zero =>
    intro c n S I L m A h hc hn
    refine wa_iload_n dX11_rounds_31 rfl ?_
    refine wa_iload_n dX11_rounds_32 rfl ?_
    refine wa_icmp_ge 60 dX11_rounds_33 (by decide) (by exact ⟨by omega, by omega⟩) (by exact ⟨by omega, by omega⟩) (fun c_33 => ?_) (fun c_33 => ?_)
    · refine wa_iload_n dX11_rounds_60 rfl ?_
      refine wa_ireturn dX11_rounds_61 rfl ?_
      exact ⟨rfl, S, I, L, rfl, h, MFr.rfl'⟩
    · omega
  | succ f ih =>
    intro c n S I L m A h hc hn
    have hL := h.1
    have o0 := oX0 hL
    have r0_0 := rX0_0 hL
    have r0_1 := rX0_1 hL
    have r0_2 := rX0_2 hL
    have r0_3 := rX0_3 hL
    have r0_4 := rX0_4 hL
    have r0_5 := rX0_5 hL
    have r0_6 := rX0_6 hL
    have r0_7 := rX0_7 hL
    have r0_8 := rX0_8 hL
    have o149 := oX149 hL
    have r149_0 := rX149_0 hL
    have r149_1 := rX149_1 hL
    have r149_2 := rX149_2 hL
    have r149_3 := rX149_3 hL
    have r149_4 := rX149_4 hL
    have r149_5 := rX149_5 hL
    have r149_6 := rX149_6 hL
    have r149_7 := rX149_7 hL
    have m1 := h.2.2.2.2.1.1
    have m2 := h.2.2.2.2.2.1.1
    have hr := c_runA h
    have hb := h.rnd_b
    have rest : ∀ (I2 : Nat → Nat → Int) (L2 : Nat → Nat → Int64), CR S I2 L2 m (aRnd A) → MFr S I S I2 → tmW kX11_rounds 11 0 0 51 [some (tR 0), some (tI n), some (tI c)] [tI (rndX A).2.2] (S, I2, L2) (NPost S I m ((c + (rndsX (f + 1) A).1 : Nat) : Int) (rndsX (f + 1) A).2) := by
      intro I2 L2 s1 s2
      by_cases z : 0 < (rndX A).2.2
      · have e : rndsX (f + 1) A = ((rndsX f (aRnd A)).1 + 1, (rndsX f (aRnd A)).2) := by simp only [rndsX]; rw [if_pos z]
        have hi := ih (c + 1) n S I2 L2 m (aRnd A) s1 (by omega) hn
        rw [e]
        refine wa_if_le 60 dX11_rounds_51 (by decide) (by exact ⟨by omega, by omega⟩) (fun c_51 => ?_) (fun c_51 => ?_)
        · omega
        · refine wa_iinc dX11_rounds_54 rfl (by decide) ?_
          refine wa_goto 31 dX11_rounds_57 (by decide) ?_
          refine hi.wk (fun r h'' hr => ?_)
          obtain ⟨rfl, S2, I3, L3, rfl, r1, r2⟩ := hr
          exact ⟨by rw [show c + 1 + (rndsX f (aRnd A)).1 = c + ((rndsX f (aRnd A)).1 + 1) by omega], S2, I3, L3, rfl, r1, s2.trans' r2⟩
      · have e : rndsX (f + 1) A = (0, aRnd A) := by simp only [rndsX]; rw [if_neg z]
        rw [e]
        refine wa_if_le 60 dX11_rounds_51 (by decide) (by exact ⟨by omega, by omega⟩) (fun c_51 => ?_) (fun c_51 => ?_)
        · refine wa_iload_n dX11_rounds_60 rfl ?_
          refine wa_ireturn dX11_rounds_61 rfl ?_
          exact ⟨rfl, S, I2, L2, rfl, s1, s2⟩
        · omega
    refine wa_iload_n dX11_rounds_31 rfl ?_
    refine wa_iload_n dX11_rounds_32 rfl ?_
    refine wa_icmp_ge 60 dX11_rounds_33 (by decide) (by exact ⟨by omega, by omega⟩) (by exact ⟨by omega, by omega⟩) (fun c_33 => ?_) (fun c_33 => ?_)
    · omega
    · refine wa_aload_n dX11_rounds_36 rfl ?_
      refine wt_getR dX11_rounds_37 FX11_57 (by assumption) (by assumption) ?_
      refine wa_aload_n dX11_rounds_40 rfl ?_
      refine wt_getI dX11_rounds_41 FX11_81 (by assumption) ?_
      try first | rw [m1] | rw [m2]
      refine wa_aload_n dX11_rounds_44 rfl ?_
      refine wt_getI dX11_rounds_45 FX11_85 (by assumption) ?_
      try first | rw [m1] | rw [m2]
      refine wa_callV (ci := 3) dX11_rounds_48 KX3_run LX11_206 ⟨_, _, rfl, by decide⟩ o149 (hr) (by decide) rfl (Nat.le_of_ble_eq_true rfl) rfl rfl (fun r h' hq => ?_)
      obtain ⟨rfl, I2, L2, rfl, s1, s2⟩ := hq
      exact rest I2 L2 s1 s2
set_option maxRecDepth 20000 in
theorem c_rounds {m : Nat} {A : AS} (h : CR S I L m A) (hm : m ≤ 1000) (n : Int) (hn : inR n) : tmC yX11_rounds kX11_rounds 11 0 0 [tR 0, tI n] (S, I, L) (CPost S I (m + 1) (tI (spRounds A n).1) (spRounds A n).2) := by
  refine tmC.mk (lv := [some (tR 0), some (tI n), none]) 1 ⟨rfl, by decide +kernel, by decide⟩ rfl rfl ?_
  have hL := h.1
  have o0 := oX0 hL
  have r0_0 := rX0_0 hL
  have r0_1 := rX0_1 hL
  have r0_2 := rX0_2 hL
  have r0_3 := rX0_3 hL
  have r0_4 := rX0_4 hL
  have r0_5 := rX0_5 hL
  have r0_6 := rX0_6 hL
  have r0_7 := rX0_7 hL
  have r0_8 := rX0_8 hL
  have o1 := oX1 hL
  have r1_0 := rX1_0 hL
  have r1_1 := rX1_1 hL
  have r1_3 := rX1_3 hL
  have o14 := oX14 hL
  have r14_0 := rX14_0 hL
  have hk := c_keepA h
  have hrf := c_rf0 h hm
  by_cases c : 1 ≤ n ∧ n ≤ 9
  · obtain ⟨nn, rfl⟩ : ∃ nn : Nat, n = (nn : Int) := ⟨n.toNat, by omega⟩
    have e : spRounds A nn = (((rndsX nn (aKeep A)).1 : Int), (rndsX nn (aKeep A)).2) := by unfold spRounds; rw [if_pos c]; rfl
    rw [e]
    refine wa_iload_n dX11_rounds_0 rfl ?_
    refine wa_iconst dX11_rounds_1 ?_
    refine wa_icmp_lt 11 dX11_rounds_2 (by decide) (by exact ⟨by omega, by omega⟩) (by exact ⟨by omega, by omega⟩) (fun c_2 => ?_) (fun c_2 => ?_)
    · omega
    · refine wa_iload_n dX11_rounds_5 rfl ?_
      refine wa_bipush dX11_rounds_6 rfl ?_
      refine wa_icmp_le 18 dX11_rounds_8 (by decide) (by exact ⟨by omega, by omega⟩) (by exact ⟨by omega, by omega⟩) (fun c_8 => ?_) (fun c_8 => ?_)
      · refine wa_aload_n dX11_rounds_18 rfl ?_
        refine wt_getR dX11_rounds_19 FX11_19 (by assumption) (by assumption) ?_
        refine wa_aload_n dX11_rounds_22 rfl ?_
        refine wt_getR dX11_rounds_23 FX11_10 (by assumption) (by assumption) ?_
        refine wa_callV (ci := 7) dX11_rounds_26 KX7_keep LX11_105 ⟨_, _, rfl, by decide⟩ o14 (hk) (by decide) rfl (Nat.le_of_ble_eq_true rfl) rfl rfl (fun r h' hq => ?_)
        obtain ⟨rfl, S', I', rfl, q1, q2, q3, q4, q5⟩ := hq
        refine wa_iconst dX11_rounds_29 ?_
        refine wa_istore_n dX11_rounds_30 (by decide) ?_
        refine (rounds_loop nn 0 nn S' I' L m (aKeep A) q1 (by omega) (by omega)).wk (fun r h'' hr => ?_)
        obtain ⟨rfl, S2, I3, L3, rfl, r1, r2⟩ := hr
        exact ⟨by rw [Nat.zero_add], S2, I3, L3, rfl, r1.up (by omega), q2.trans' r2⟩
      · omega
  · have e : spRounds A n = (-2, aRf A 0) := by unfold spRounds; rw [if_neg c]
    rw [e]
    refine wa_iload_n dX11_rounds_0 rfl ?_
    refine wa_iconst dX11_rounds_1 ?_
    refine wa_icmp_lt 11 dX11_rounds_2 (by decide) (by first | exact hn | exact ⟨by omega, by omega⟩) (by first | exact hn | exact ⟨by omega, by omega⟩) (fun c_2 => ?_) (fun c_2 => ?_)
    · refine wa_aload_n dX11_rounds_11 rfl ?_
      refine wa_bipush dX11_rounds_12 rfl ?_
      refine wa_callV (ci := 11) dX11_rounds_14 KX11_refuse LX11_88 ⟨_, _, rfl, by decide⟩ o0 (hrf) (by decide) rfl (Nat.le_of_ble_eq_true rfl) rfl rfl (fun r h' hq => ?_)
      obtain ⟨rfl, hq⟩ := hq
      refine wa_ireturn dX11_rounds_17 rfl ?_
      exact ⟨rfl, hq⟩
    · refine wa_iload_n dX11_rounds_5 rfl ?_
      refine wa_bipush dX11_rounds_6 rfl ?_
      refine wa_icmp_le 18 dX11_rounds_8 (by decide) (by first | exact hn | exact ⟨by omega, by omega⟩) (by first | exact hn | exact ⟨by omega, by omega⟩) (fun c_8 => ?_) (fun c_8 => ?_)
      · exfalso; omega
      · refine wa_aload_n dX11_rounds_11 rfl ?_
        refine wa_bipush dX11_rounds_12 rfl ?_
        refine wa_callV (ci := 11) dX11_rounds_14 KX11_refuse LX11_88 ⟨_, _, rfl, by decide⟩ o0 (hrf) (by decide) rfl (Nat.le_of_ble_eq_true rfl) rfl rfl (fun r h' hq => ?_)
        obtain ⟨rfl, hq⟩ := hq
        refine wa_ireturn dX11_rounds_17 rfl ?_
        exact ⟨rfl, hq⟩
end S90
