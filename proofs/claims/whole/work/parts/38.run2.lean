/-! ===== 38: Round.run ===== -/
def RuleRs (I : Nat → Nat → Int) (nr : Nat) (pr szr lfr : Nat → Nat) : Prop := ∀ r, r < nr → RuleR I (pr r) (szr r) (lfr r)
/-- a FINDING done keeps TERMS and CLASSES well -/
theorem Do_inv {S : tmS} {I I' : Nat → Nat → Int} {L : Nat → Nat → Int64} {n p sz lf : Nat} {x y z P g : Int} {u : Int} {res : Option (TS × (Nat → Int))} (ht : TInv I n) (hw : RuleW S I p sz lf) (hr : RightOK I p sz lf n (ltOf n (I 7) x y z)) (hg : 0 ≤ g ∧ g ≤ 9)
    (hres : res = bdF (I (p + 1)) (I (p + 2)) (I (p + 3)) (ltOf n (I 7) x y z) g (sz - lf) lf (tsOf I n) (I 142)) (h : DoPost S I L n (sz - 1) P res (some (tI u)) (S, I', L)) : ∃ n', n ≤ n' ∧ n' ≤ 50 ∧ TInv I' n' := by
  obtain ⟨I2, u2, e1, e2, hfr, hpl, hm⟩ := h
  have hI : I' = I2 := by simpa using e2
  subst hI
  obtain ⟨h1, h2, h3, h4, h5, h6⟩ := ht
  obtain ⟨q1, q2, q3, q4, q5, q6, q7, q8, q9, q10, q11⟩ := hw
  cases hb : res with
  | none =>
    rw [hb] at hm
    obtain ⟨m1, m2, m3, m4, m5⟩ := hm
    refine ⟨n, Nat.le_refl _, h2, m2, h2, ?_, ?_, ?_, ?_⟩
    · exact h3.row (fun t ht => ⟨m3 3 (by decide) (by decide) t ht, m3 4 (by decide) (by decide) t ht, m3 5 (by decide) (by decide) t ht⟩)
    · exact h4.row (fun t ht => m3 7 (by decide) (by decide) t ht)
    · rw [m4]
      exact h5.row (fun t ht => ⟨m3 3 (by decide) (by decide) t ht, m3 4 (by decide) (by decide) t ht, m3 5 (by decide) (by decide) t ht, m3 7 (by decide) (by decide) t ht⟩)
    · intro t ht; rw [m3 6 (by decide) (by decide) t ht]; exact h6 t ht
  | some Xm =>
    obtain ⟨X1, md⟩ := Xm
    rw [hb] at hm
    obtain ⟨c1, c2, c3, c4, c5, c6, c7, _⟩ := hm
    have hX0 : TsOK (tsOf I n) := ⟨h2, h3, h4, h6⟩
    obtain ⟨o1, o2, o3⟩ := bdF_ok q8 q7 hr.1 hg (sz - lf) lf (tsOf I n) _ X1 md (by omega) (Nat.le_refl _) (hres.symm.trans hb) hX0 (fun j a b => by omega) (fun j a b c => hr.2 j a (by omega) c)
    refine ⟨X1.1, o2.1, o1.1, c2, o1.1, ?_, c1.1.1, ?_, ?_⟩
    · rw [c3, c4, c5]; exact o1.2.1
    · rw [c3, c4, c5]; exact c7
    · rw [c6]; exact o1.2.2.2
theorem DoFr.trans {I J K : Nat → Nat → Int} (h1 : DoFr I J) (h2 : DoFr J K) : DoFr I K := fun a a1 a2 a3 a4 a5 a6 a7 a8 a9 a10 a11 a12 => by
  rw [h2 a a1 a2 a3 a4 a5 a6 a7 a8 a9 a10 a11 a12]; exact h1 a a1 a2 a3 a4 a5 a6 a7 a8 a9 a10 a11 a12
theorem DoFr.at' {I J : Nat → Nat → Int} (h : DoFr I J) {a : Nat} (ha : 8 ≤ a) (h3 : a ≠ 133) (h4 : a ≠ 134) (h5 : a ≠ 135) (h6 : a ≠ 141) (h7 : a ≠ 142) (h8 : a ≠ 154) : J a = I a := h a (by omega) (by omega) (by omega) (by omega) (by omega) (by omega) h3 h4 h5 h6 h7 h8
def RnFr (I I' : Nat → Nat → Int) : Prop := ∀ a, a ≠ 2 → a ≠ 3 → a ≠ 4 → a ≠ 5 → a ≠ 6 → a ≠ 7 → a ≠ 133 → a ≠ 134 → a ≠ 135 → a ≠ 141 → a ≠ 142 → a ≠ 143 → a ≠ 154 → I' a = I a
section S38
variable {S : tmS} {I : Nat → Nat → Int} {L : Nat → Nat → Int64}
abbrev RnPost (S : tmS) (I : Nat → Nat → Int) (L : Nat → Nat → Int64) (pr szr lfr : Nat → Nat) (es : List E6) (X : TS) (C : Nat → Int) (c : Int) : Option tmV → tmH → Prop := fun q h' => ∃ I2 n2 u2, q = some (tI u2) ∧ h' = (S, I2, L) ∧ RnFr I I2 ∧ I2 143 = va_up (I 143) 3 (-1) ∧ TInv I2 n2 ∧ (∃ us, PlOK I2 us) ∧ X.1 ≤ n2 ∧ RunS I pr szr lfr es X C c (tsOf I2 n2) (I2 154) u2
set_option maxRecDepth 20000 in
set_option maxHeartbeats 2000000 in
theorem run_loop (hL : LX S) {n nr : Nat} {pr szr lfr : Nat → Nat} (hrk : RulesOK S I nr pr szr lfr) (hrr : RuleRs I nr pr szr lfr) {T : List E6} (hT : TdOK (I 150 1) (L 151) T) (hg : ∀ e ∈ T, TdGood I pr lfr n nr e) (od lim : Int) (hln : (ORD od T).length = T.length) (hsq : ∀ p j : Nat, (SQK (kyOf od T) T.length 50)[p]? = some j → I 152 p = (j : Int)) :
    ∀ (m i : Nat) (I' : Nat → Nat → Int) (n' : Nat) (c : Int), i + m = T.length → DoFr I I' → TInv I' n' → n ≤ n' → (∃ us, PlOK I' us) → (∀ j, j < 5 → 0 ≤ I' 154 j ∧ I' 154 j ≤ 1200 + 50 * (i : Int)) → 0 ≤ c ∧ c ≤ i →
    tmW kX3_run 10 0 0 23 [some (tR 149), some (tI od), some (tI lim), some (tI c), some (tI i)] [] (S, I', L) (RnPost S I L pr szr lfr ((ORD od T).drop i) (tsOf I' n') (I' 154) c) := by
  intro m
  have o149 := oX149 hL
  have r149_0 := rX149_0 hL
  have r149_1 := rX149_1 hL
  have r149_2 := rX149_2 hL
  have r149_3 := rX149_3 hL
  have r149_4 := rX149_4 hL
  have r149_5 := rX149_5 hL
  have r149_6 := rX149_6 hL
  have r149_7 := rX149_7 hL
  have o150 := oX150 hL
  have r150_0 := rX150_0 hL
  have o151 := oX151 hL
  have o152 := oX152 hL
  have o153 := oX153 hL
  have o154 := oX154 hL
  have o143 := oX143 hL
  have r143_0 := rX143_0 hL
  have r143_1 := rX143_1 hL
  have r143_2 := rX143_2 hL
  have r143_4 := rX143_4 hL
  have r143_5 := rX143_5 hL
  have r143_6 := rX143_6 hL
  obtain ⟨t1, t2, t3⟩ := id hT
  induction m with
  | zero =>
    intro i I' n' c him hfr hti hnn hpl hcn hc
    have hi : i = T.length := by omega
    have e150 : I' 150 1 = (T.length : Int) := by rw [hfr.at' (by decide) (by decide) (by decide) (by decide) (by decide) (by decide) (by decide)]; exact t1
    have e143 : I' 143 = I 143 := hfr.at' (by decide) (by decide) (by decide) (by decide) (by decide) (by decide) (by decide)
    have hfg := c_forget (I := I') (L := L) hL
    refine wa_iload dX3_run_23 rfl ?_
    refine wa_aload_n dX3_run_25 rfl ?_
    refine wt_getR dX3_run_26 FX3_16 (by assumption) (by assumption) ?_
    refine wt_getI dX3_run_29 FX3_58 (by assumption) ?_
    try try rw [e150]
    refine wa_icmp_ge 58 dX3_run_32 (by decide) (by exact ⟨by omega, by omega⟩) (by exact ⟨by omega, by omega⟩) (fun c_32 => ?_) (fun c_32 => ?_)
    · refine wa_aload_n dX3_run_58 rfl ?_
      refine wt_getR dX3_run_59 FX3_38 (by assumption) (by assumption) ?_
      refine wa_callVf (ci := 4) dX3_run_62 KX4_forget LX3_66 ⟨_, _, rfl, by decide⟩ o143 (hfg) (by decide) rfl rfl (Nat.le_of_ble_eq_true rfl) rfl rfl ?_
      refine wa_iload_n dX3_run_65 rfl ?_
      refine wa_ireturn dX3_run_66 rfl ?_
      refine ⟨_, n', c, rfl, rfl, fun a a1 a2 a3 a4 a5 a6 a7 a8 a9 a10 a11 a12 a13 => ?_, ?_, ?_, ?_, Nat.le_refl _, ?_⟩
      · rw [vup_n a12]; exact hfr a a1 a2 a3 a4 a5 a6 a7 a8 a9 a10 a11 a13
      · rw [vup_s, e143]
      · exact hti.fr (fun a ha => vup_n (by omega))
      · obtain ⟨us, w1, w2, w3, w4⟩ := hpl
        exact ⟨us, w1, w2, w3, w4⟩
      · rw [List.drop_eq_nil_of_le (by omega)]
        exact ⟨rfl, rfl, rfl⟩
    · omega
  | succ m ih =>
    intro i I' n' c him hfr hti hnn hpl hcn hc
    have e150r : I' 150 = I 150 := hfr.at' (by decide) (by decide) (by decide) (by decide) (by decide) (by decide) (by decide)
    have e150 : I' 150 1 = (T.length : Int) := by rw [e150r]; exact t1
    have e152 : I' 152 = I 152 := hfr.at' (by decide) (by decide) (by decide) (by decide) (by decide) (by decide) (by decide)
    have e1 : I' 1 = I 1 := hfr 1 (by decide) (by decide) (by decide) (by decide) (by decide) (by decide) (by decide) (by decide) (by decide) (by decide) (by decide) (by decide)
    have e192 : ∀ a, 192 ≤ a → I' a = I a := fun a ha => hfr.at' (by omega) (by omega) (by omega) (by omega) (by omega) (by omega) (by omega)
    obtain ⟨e, he⟩ : ∃ e, (ORD od T)[i]? = some e := ⟨_, List.getElem?_eq_getElem (by omega)⟩
    have hdrop : (ORD od T).drop i = e :: (ORD od T).drop (i + 1) := by
      have := (List.getElem?_eq_some_iff.mp he)
      obtain ⟨w1, w2⟩ := this
      rw [List.drop_eq_getElem_cons w1, w2]
    have he2 := he
    rw [ORD_at] at he2
    obtain ⟨j, j1, j2⟩ := Option.bind_eq_some_iff.mp he2
    have hj := hsq i j j1
    have hjT := (List.getElem?_eq_some_iff.mp j2).1
    obtain ⟨⟨⟨g1, g2⟩, g3, g4⟩, g5⟩ := hg e (List.mem_of_getElem? j2)
    obtain ⟨f0, f1, f2, f3, f4, f5, f6⟩ := t3 j e j2
    generalize hr0 : e.1.toNat = r0 at *
    have hr1 : e.1 = (r0 : Int) := by omega
    have hr2 : r0 < nr := by omega
    obtain ⟨hp, hw0⟩ := hrk.2.2 r0 hr2
    have hw : RuleW S I' (pr r0) (szr r0) (lfr r0) := hw0.fr e192
    have hp192 := hw.1
    have x1 := e192 (pr r0 + 1) (by omega)
    have x2 := e192 (pr r0 + 2) (by omega)
    have x3 := e192 (pr r0 + 3) (by omega)
    have hro := RightOK.mk' hw0 (hrr r0 hr2) g5 hnn hti.2.2.2.1 x1 x2 x3
    obtain ⟨us, hus⟩ := id hpl
    have hent : Ent L 150 j (r0 : Int) e.2.1 e.2.2.1 e.2.2.2.1 e.2.2.2.2.1 e.2.2.2.2.2 := ⟨by rw [← hr1]; exact f0, by rw [← hr1]; exact f1, f2, f3, f4, f5, f6⟩
    have hdo := c_doOne (I := I') (L := L) hL e150 t2 hjT hent hti hus (by omega) g4 (by rw [e1]; exact hrk.1) hrk.2.1 hr2 hp hw hro (fun k hk => by have := hcn k hk; omega)
    have after : ∀ (I2 : Nat → Nat → Int) (u : Int) (n2 : Nat), (u = 0 ∨ u = 1) → tmW kX3_run 10 0 0 23 [some (tR 149), some (tI od), some (tI lim), some (tI (c + u)), some (tI ((i + 1 : Nat) : Int))] [] (S, I2, L) (RnPost S I L pr szr lfr ((ORD od T).drop i) (tsOf I' n') (I' 154) c) → tmW kX3_run 10 0 0 46 [some (tR 149), some (tI od), some (tI lim), some (tI c), some (tI i)] [tI u] (S, I2, L) (RnPost S I L pr szr lfr ((ORD od T).drop i) (tsOf I' n') (I' 154) c) := by
      intro I2 u n2 hu hk
      refine wa_if_eq 52 dX3_run_46 (by decide) (by exact ⟨by omega, by omega⟩) (fun c_46 => ?_) (fun c_46 => ?_)
      · rw [show c + u = c by omega] at hk
        refine wa_iinc dX3_run_52 rfl (by decide) ?_
        refine wa_goto 23 dX3_run_55 (by decide) ?_
        exact hk
      · rw [show c + u = c + 1 by omega] at hk
        refine wa_iinc dX3_run_49 rfl (by decide) ?_
        refine wa_iinc dX3_run_52 rfl (by decide) ?_
        refine wa_goto 23 dX3_run_55 (by decide) ?_
        exact hk
    refine wa_iload dX3_run_23 rfl ?_
    refine wa_aload_n dX3_run_25 rfl ?_
    refine wt_getR dX3_run_26 FX3_16 (by assumption) (by assumption) ?_
    refine wt_getI dX3_run_29 FX3_58 (by assumption) ?_
    try try rw [e150]
    refine wa_icmp_ge 58 dX3_run_32 (by decide) (by exact ⟨by omega, by omega⟩) (by exact ⟨by omega, by omega⟩) (fun c_32 => ?_) (fun c_32 => ?_)
    · omega
    · refine wa_aload_n dX3_run_35 rfl ?_
      refine wa_aload_n dX3_run_36 rfl ?_
      refine wt_getR dX3_run_37 FX3_20 (by assumption) (by assumption) ?_
      refine wa_iload dX3_run_40 rfl ?_
      refine wt_iald i dX3_run_42 (by assumption) rfl (by omega) ?_
      try try rw [e150]
      rw [e152, hj]
      refine wa_callV (ci := 3) dX3_run_43 KX3_doOne LX3_62 ⟨_, _, rfl, by decide⟩ (by assumption) (hdo) (by decide) rfl (Nat.le_of_ble_eq_true rfl) rfl rfl (fun r h' hq => ?_)
      obtain ⟨I2, u, rfl, rfl, hfr2, hpl2, hm⟩ := id hq
      obtain ⟨n2, hn2, hn5, hti2⟩ := Do_inv hti hw hro g4 rfl hq
      have hu : u = 0 ∨ u = 1 := by
        split at hm
        · exact Or.inl hm.1
        · obtain ⟨_, _, _, _, _, _, _, hu, _⟩ := hm
          rw [hu]; split <;> simp
      refine after I2 u n2 hu ?_
      have hds : DoS I pr szr lfr e (tsOf I' n') (I' 154) (tsOf I2 n2) (I2 154) u := by
        refine ⟨I' 142, ?_⟩
        rw [hr0, ← x1, ← x2, ← x3]
        show match bdF (I' (pr r0 + 1)) (I' (pr r0 + 2)) (I' (pr r0 + 3)) (ltOf n' (I' 7) e.2.1 e.2.2.1 e.2.2.2.1) e.2.2.2.2.2 (szr r0 - lfr r0) (lfr r0) (tsOf I' n') (I' 142) with | none => _ | some (X1, md') => _
        clear hq hdo
        generalize bdF (I' (pr r0 + 1)) (I' (pr r0 + 2)) (I' (pr r0 + 3)) (ltOf n' (I' 7) e.2.1 e.2.2.1 e.2.2.2.1) e.2.2.2.2.2 (szr r0 - lfr r0) (lfr r0) (tsOf I' n') (I' 142) = res at hm ⊢
        cases res with
        | none =>
          obtain ⟨m1, m2, m3, m4, m5⟩ := hm
          have := hti2.1
          refine ⟨m1, by show n2 = n'; omega, fun t ht => ⟨m3 3 (by decide) (by decide) t ht, m3 4 (by decide) (by decide) t ht, m3 5 (by decide) (by decide) t ht, m3 6 (by decide) (by decide) t ht, m3 7 (by decide) (by decide) t ht⟩, ?_⟩
          rw [m5]
          refine ⟨vup_n (by decide), vup_n (by decide), vup_s, vup_n (by decide), vup_n (by decide)⟩
        | some Xm =>
          obtain ⟨X1, md⟩ := Xm
          obtain ⟨c1, c2, c3, c4, c5, c6, c7, c8, c9⟩ := hm
          have := hti2.1
          exact ⟨c1, by show n2 = X1.1; omega, c3, c4, c5, c6, c8, c9⟩
      have hcn2 : ∀ j, j < 5 → 0 ≤ I2 154 j ∧ I2 154 j ≤ 1200 + 50 * ((i + 1 : Nat) : Int) := by
        clear hq hdo hds
        have k0 := hcn 0 (by decide)
        have k1 := hcn 1 (by decide)
        have k2 := hcn 2 (by decide)
        have k3 := hcn 3 (by decide)
        have k4 := hcn 4 (by decide)
        have hall : (0 ≤ I2 154 0 ∧ I2 154 0 ≤ 1200 + 50 * ((i + 1 : Nat) : Int)) ∧ (0 ≤ I2 154 1 ∧ I2 154 1 ≤ 1200 + 50 * ((i + 1 : Nat) : Int)) ∧ (0 ≤ I2 154 2 ∧ I2 154 2 ≤ 1200 + 50 * ((i + 1 : Nat) : Int)) ∧ (0 ≤ I2 154 3 ∧ I2 154 3 ≤ 1200 + 50 * ((i + 1 : Nat) : Int)) ∧ (0 ≤ I2 154 4 ∧ I2 154 4 ≤ 1200 + 50 * ((i + 1 : Nat) : Int)) := by
          generalize bdF (I' (pr r0 + 1)) (I' (pr r0 + 2)) (I' (pr r0 + 3)) (ltOf n' (I' 7) e.2.1 e.2.2.1 e.2.2.2.1) e.2.2.2.2.2 (szr r0 - lfr r0) (lfr r0) (tsOf I' n') (I' 142) = res at hm
          cases res with
          | none =>
            obtain ⟨m1, m2, m3, m4, m5⟩ := hm
            rw [m5, vup_s, vup_n (by decide), vup_n (by decide), vup_n (by decide), vup_n (by decide)]
            omega
          | some Xm =>
            obtain ⟨X1, md⟩ := Xm
            obtain ⟨c1, c2, c3, c4, c5, c6, c7, c8, c9, c10, c11, c12, c13⟩ := hm
            have := hti2.1
            rw [c9, c10, c11, c12, c13]
            split <;> omega
        intro j hj
        have : j = 0 ∨ j = 1 ∨ j = 2 ∨ j = 3 ∨ j = 4 := by omega
        rcases this with rfl | rfl | rfl | rfl | rfl
        · exact hall.1
        · exact hall.2.1
        · exact hall.2.2.1
        · exact hall.2.2.2.1
        · exact hall.2.2.2.2
      refine (ih (i + 1) I2 n2 (c + u) (by omega) (hfr.trans hfr2) hti2 (by omega) hpl2 hcn2 (by omega)).wk ?_
      rintro q h'' ⟨I3, n3, u3, rfl, rfl, w1, w2, w3, w4, w5, w6⟩
      refine ⟨I3, n3, u3, rfl, rfl, w1, w2, w3, w4, Nat.le_trans hn2 w5, ?_⟩
      rw [hdrop]
      exact ⟨_, _, u, hds, w6⟩
end S38
