/-! ===== 99z: the reference: round, rounds, still ===== -/
set_option maxRecDepth 20000 in
theorem AOK.keep {m : Nat} {A : AS} (h : AOK m A) : AOK m (aKeep A) := by
  obtain ⟨h1, h2, h3, h4⟩ := h
  refine ⟨h1, fun st hst => ?_, ?_, h4⟩
  · have hst : st ∈ keepL A.2.1 A.1 := hst
    unfold keepL at hst
    split at hst
    · rcases List.mem_append.mp hst with z | z
      · exact h2 st z
      · rw [List.mem_singleton] at z; subst z; exact h1
    · rcases List.mem_append.mp hst with z | z
      · exact h2 st (List.mem_of_mem_drop z)
      · rw [List.mem_singleton] at z; subst z; exact h1
  · show (keepL A.2.1 A.1).length ≤ 8
    unfold keepL
    split
    · rw [List.length_append, List.length_singleton]; omega
    · rw [List.length_append, List.length_singleton, List.length_drop]; omega
set_option maxRecDepth 20000 in
theorem tds_eg {m : Nat} {A : AS} (ha : AOK m A) (ht : RlT A.1.2) : ∀ e ∈ tdsX A.1.1 A.1.2 A.2.2.1.2, EG A.1.1.1 A.1.2 e := fun e he => by
  unfold tdsX at he
  obtain ⟨r, hr, he⟩ := List.mem_flatMap.mp he
  have hr := List.mem_range.mp hr
  obtain ⟨a, b⟩ := List.mem_filter.mp he
  have hl := ha.2.2.2.2.1
  exact (fnd6_good ha.1.1 (ht.at hr).1 (ha.1.2.2.at hr).1 a).eg ha.1.2.2 hr (by unfold notLate at b; have := of_decide_eq_true b; omega)
set_option maxRecDepth 20000 in
theorem AOK.rnd {m : Nat} {A : AS} (ha : AOK m A) (ht : RlT A.1.2) : AOK m (aRnd A) := by
  have ll := lateX_le A.1.1 A.1.2 A.2.2.1.2 A.1.2.length
  have h6 := ha.1.2.1
  have rc := runX_C ha.1.2.2 (ORD A.2.2.1.1 (tdsX A.1.1 A.1.2 A.2.2.1.2)) A.1.1 (fun j => if j = 1 then (lateX A.1.1 A.1.2 A.2.2.1.2 A.1.2.length : Int) else 0) 0 1200 ha.1.1 (fun e he => tds_eg ha ht e (ORD_mem he)) (fun j hj => by split <;> omega)
  exact ⟨⟨rc.2.1, ha.1.2⟩, ha.2⟩
set_option maxRecDepth 20000 in
theorem rnd_b {m : Nat} {A : AS} (ha : AOK m A) : 0 ≤ (rndX A).2.2 ∧ (rndX A).2.2 ≤ 1200 := by
  have hb := runX_b (rl := A.1.2) (ORD A.2.2.1.1 (tdsX A.1.1 A.1.2 A.2.2.1.2)) A.1.1 (fun j => if j = 1 then (lateX A.1.1 A.1.2 A.2.2.1.2 A.1.2.length : Int) else 0) 0
  have h6 := ha.1.2.1
  have hl := tdsX_len A.1.1 A.1.2 A.2.2.1.2
  have hln := ORD_le A.2.2.1.1 (tdsX A.1.1 A.1.2 A.2.2.1.2)
  unfold rndX
  omega
set_option maxRecDepth 20000 in
theorem MR.rnd {I J : Nat → Nat → Int} {m : Nat} {A : AS} (h : MR I A) (ha : AOK m A) (m1 : MT J (rndX A).1) (m2 : ∀ j, j < 5 → J 173 j = (rndX A).2.1 j) (f : GRF I J) : MR J (aRnd A) := by
  obtain ⟨h1, h2, h3, h4, h5, h6, h7, h8⟩ := h
  exact ⟨⟨m1, h1.2.cg ha.1.2.1 ha.1.2.2 (fun k hk _ => f.2.2 k hk)⟩, by rw [f.2.1 2 (by decide) (by decide) (by decide)]; exact h2, fun i s hs => by rw [f.1 170 (by omega)]; exact h3 i s hs, by rw [f.1 172 (by omega)]; exact h4, fun j hj => by rw [f.1 175 (by omega)]; exact h5 j hj, m2, by rw [f.2.1 9 (by decide) (by decide) (by decide)]; exact h7, fun i hi => by rw [f.1 176 (by omega)]; exact h8 i hi⟩
section S99z
variable {S : tmS} {L : Nat → Nat → Int64}
set_option maxRecDepth 20000 in
theorem c_mround {I : Nat → Nat → Int} {m : Nat} {A : AS} (hL : LX S) (ha : AOK m A) (h : MR I A) (ht : RlT A.1.2) : tmC yX12_round kX12_round 9 0 0 [tR 168] (S, I, L) (MPost S I L (tI (spRound A).1) (spRound A).2) := by
  refine tmC.mk (lv := [some (tR 168)]) 0 ⟨rfl, by decide +kernel, by decide⟩ rfl rfl ?_
  have o168 := oX168 hL
  have r168_0 := rX168_0 hL
  have r168_1 := rX168_1 hL
  have r168_3 := rX168_3 hL
  have r168_4 := rX168_4 hL
  have r168_5 := rX168_5 hL
  have r168_6 := rX168_6 hL
  have r168_7 := rX168_7 hL
  have r168_8 := rX168_8 hL
  have r168_11 := rX168_11 hL
  have r168_13 := rX168_13 hL
  have r168_17 := rX168_17 hL
  have r168_18 := rX168_18 hL
  have r168_19 := rX168_19 hL
  have r168_21 := rX168_21 hL
  have r168_22 := rX168_22 hL
  have r168_23 := rX168_23 hL
  have r168_24 := rX168_24 hL
  have r168_25 := rX168_25 hL
  have r168_26 := rX168_26 hL
  have r168_27 := rX168_27 hL
  have r168_28 := rX168_28 hL
  have r168_29 := rX168_29 hL
  have r168_30 := rX168_30 hL
  have hk := c_mkeeps (L := L) hL ha h
  have rest : ∀ J : Nat → Nat → Int, MR J (aKeep A) → CFr I J → tmW kX12_round 9 0 0 4 [some (tR 168)] [] (S, J, L) (MPost S I L (tI (spRound A).1) (spRound A).2) := by
    intro J j1 j2
    have kg := c_mgoes (I := J) (L := L) hL ha.keep j1 (show RlT (aKeep A).1.2 from ht)
    refine wa_aload_n dX12_round_4 rfl ?_
    refine wa_callV (ci := 12) dX12_round_5 KX12_goesRound LX12_188 ⟨_, _, rfl, by decide⟩ o168 (kg) (by decide) rfl (Nat.le_of_ble_eq_true rfl) rfl rfl (fun r h' hq => ?_)
    obtain ⟨rfl, K, rfl, m1, m2, m3⟩ := hq
    refine wa_ireturn dX12_round_8 rfl ?_
    exact ⟨rfl, K, rfl, j1.rnd ha.keep m1 m2 m3, j2.trans' m3.cf⟩
  refine wa_aload_n dX12_round_0 rfl ?_
  refine wa_callV (ci := 12) dX12_round_1 KX12_keeps LX12_116 ⟨_, _, rfl, by decide⟩ o168 (hk) (by decide) rfl (Nat.le_of_ble_eq_true rfl) rfl rfl (fun r h' hq => ?_)
  obtain ⟨rfl, J, rfl, j1, j2, j3⟩ := hq
  exact rest J j1 j2
set_option maxRecDepth 20000 in
theorem mrounds_loop (hL : LX S) {m : Nat} : ∀ (f c n : Nat) (I : Nat → Nat → Int) (A : AS), AOK m A → MR I A → RlT A.1.2 → c + f = n → n ≤ 9 → tmW kX12_rounds 9 0 0 25 [some (tR 168), some (tI n), some (tI c), some (tI c)] [] (S, I, L) (MPost S I L (tI ((c + (rndsX f A).1 : Nat) : Int)) (rndsX f A).2) := by
  intro f
  have o168 := oX168 hL
  have r168_0 := rX168_0 hL
  have r168_1 := rX168_1 hL
  have r168_3 := rX168_3 hL
  have r168_4 := rX168_4 hL
  have r168_5 := rX168_5 hL
  have r168_6 := rX168_6 hL
  have r168_7 := rX168_7 hL
  have r168_8 := rX168_8 hL
  have r168_11 := rX168_11 hL
  have r168_13 := rX168_13 hL
  have r168_17 := rX168_17 hL
  have r168_18 := rX168_18 hL
  have r168_19 := rX168_19 hL
  have r168_21 := rX168_21 hL
  have r168_22 := rX168_22 hL
  have r168_23 := rX168_23 hL
  have r168_24 := rX168_24 hL
  have r168_25 := rX168_25 hL
  have r168_26 := rX168_26 hL
  have r168_27 := rX168_27 hL
  have r168_28 := rX168_28 hL
  have r168_29 := rX168_29 hL
  have r168_30 := rX168_30 hL
  induction f with
  | zero =>
    intro c n I A ha h ht hc hn
    refine wa_iload_n dX12_rounds_25 rfl ?_
    refine wa_iload_n dX12_rounds_26 rfl ?_
    refine wa_icmp_ge 46 dX12_rounds_27 (by decide) (by exact ⟨by omega, by omega⟩) (by exact ⟨by omega, by omega⟩) (fun c_27 => ?_) (fun c_27 => ?_)
    · refine wa_iload_n dX12_rounds_46 rfl ?_
      refine wa_ireturn dX12_rounds_47 rfl ?_
      exact ⟨rfl, I, rfl, h, CFr.rfl'⟩
    · omega
  | succ f ih =>
    intro c n I A ha h ht hc hn
    have kg := c_mgoes (I := I) (L := L) hL ha h ht
    have rb := rnd_b ha
    simp only [rndsX]
    have rest : ∀ K : Nat → Nat → Int, MT K (rndX A).1 → (∀ j, j < 5 → K 173 j = (rndX A).2.1 j) → GRF I K → tmW kX12_rounds 9 0 0 34 [some (tR 168), some (tI n), some (tI c), some (tI c)] [tI (rndX A).2.2] (S, K, L) (MPost S I L (tI ((c + (if 0 < (rndX A).2.2 then ((rndsX f (aRnd A)).1 + 1, (rndsX f (aRnd A)).2) else (0, aRnd A)).1 : Nat) : Int)) (if 0 < (rndX A).2.2 then ((rndsX f (aRnd A)).1 + 1, (rndsX f (aRnd A)).2) else (0, aRnd A)).2) := fun K m1 m2 m3 => by
      have hr := h.rnd ha m1 m2 m3
      by_cases z : 0 < (rndX A).2.2
      · rw [if_pos z]
        have nx := (ih (c + 1) n K (aRnd A) (ha.rnd ht) hr ht (by omega) hn).wk (Q2 := MPost S I L (tI ((c + ((rndsX f (aRnd A)).1 + 1) : Nat) : Int)) (rndsX f (aRnd A)).2) (fun q h' hq => by
          obtain ⟨rfl, W, rfl, w1, w2⟩ := hq
          refine ⟨by rw [show c + 1 + (rndsX f (aRnd A)).1 = c + ((rndsX f (aRnd A)).1 + 1) by omega], W, rfl, w1, m3.cf.trans' w2⟩)
        refine wa_if_le 46 dX12_rounds_34 (by decide) (by exact ⟨by omega, by omega⟩) (fun c_34 => ?_) (fun c_34 => ?_)
        · omega
        · refine wa_iinc dX12_rounds_37 rfl (by decide) ?_
          refine wa_iinc dX12_rounds_40 rfl (by decide) ?_
          refine wa_goto 25 dX12_rounds_43 (by decide) ?_
          exact nx
      · rw [if_neg z]
        refine wa_if_le 46 dX12_rounds_34 (by decide) (by exact ⟨by omega, by omega⟩) (fun c_34 => ?_) (fun c_34 => ?_)
        · refine wa_iload_n dX12_rounds_46 rfl ?_
          refine wa_ireturn dX12_rounds_47 rfl ?_
          exact ⟨rfl, K, rfl, hr, m3.cf⟩
        · omega
    refine wa_iload_n dX12_rounds_25 rfl ?_
    refine wa_iload_n dX12_rounds_26 rfl ?_
    refine wa_icmp_ge 46 dX12_rounds_27 (by decide) (by exact ⟨by omega, by omega⟩) (by exact ⟨by omega, by omega⟩) (fun c_27 => ?_) (fun c_27 => ?_)
    · omega
    · refine wa_aload_n dX12_rounds_30 rfl ?_
      refine wa_callV (ci := 12) dX12_rounds_31 KX12_goesRound LX12_188 ⟨_, _, rfl, by decide⟩ o168 (kg) (by decide) rfl (Nat.le_of_ble_eq_true rfl) rfl rfl (fun r h' hq => ?_)
      obtain ⟨rfl, K, rfl, m1, m2, m3⟩ := hq
      exact rest K m1 m2 m3
set_option maxRecDepth 20000 in
theorem c_mrounds {I : Nat → Nat → Int} {m : Nat} {A : AS} (hL : LX S) (ha : AOK m A) (hm : m ≤ 1000) (h : MR I A) (ht : RlT A.1.2) (n : Int) (hn : inR n) : tmC yX12_rounds kX12_rounds 9 0 0 [tR 168, tI n] (S, I, L) (MPost S I L (tI (spRounds A n).1) (spRounds A n).2) := by
  refine tmC.mk (lv := [some (tR 168), some (tI n), none, none]) 2 ⟨rfl, by decide +kernel, by decide⟩ rfl rfl ?_
  have o168 := oX168 hL
  have r168_0 := rX168_0 hL
  have r168_1 := rX168_1 hL
  have r168_3 := rX168_3 hL
  have r168_4 := rX168_4 hL
  have r168_5 := rX168_5 hL
  have r168_6 := rX168_6 hL
  have r168_7 := rX168_7 hL
  have r168_8 := rX168_8 hL
  have r168_11 := rX168_11 hL
  have r168_13 := rX168_13 hL
  have r168_17 := rX168_17 hL
  have r168_18 := rX168_18 hL
  have r168_19 := rX168_19 hL
  have r168_21 := rX168_21 hL
  have r168_22 := rX168_22 hL
  have r168_23 := rX168_23 hL
  have r168_24 := rX168_24 hL
  have r168_25 := rX168_25 hL
  have r168_26 := rX168_26 hL
  have r168_27 := rX168_27 hL
  have r168_28 := rX168_28 hL
  have r168_29 := rX168_29 hL
  have r168_30 := rX168_30 hL
  have hrf := c_mrf0 (L := L) hL ha hm h
  have k1 := c_min (h := (S, I, L)) n 1 9 hn ⟨by decide, by decide⟩ ⟨by decide, by decide⟩
  have hk := c_mkeeps (L := L) hL ha h
  by_cases c : 1 ≤ n ∧ n ≤ 9
  · rw [if_pos c] at k1
    obtain ⟨n, rfl⟩ : ∃ n' : Nat, n = (n' : Int) := ⟨n.toNat, by omega⟩
    have e : spRounds A n = (((rndsX n (aKeep A)).1 : Int), (rndsX n (aKeep A)).2) := by unfold spRounds; rw [if_pos c, Int.toNat_natCast]
    rw [e]
    have rest : ∀ J : Nat → Nat → Int, MR J (aKeep A) → CFr I J → tmW kX12_rounds 9 0 0 21 [some (tR 168), some (tI n), none, none] [] (S, J, L) (MPost S I L (tI ((rndsX n (aKeep A)).1 : Int)) (rndsX n (aKeep A)).2) := fun J j1 j2 => by
      have lp := (mrounds_loop (L := L) hL n 0 n J (aKeep A) ha.keep j1 ht (by omega) (by omega)).wk (Q2 := MPost S I L (tI ((rndsX n (aKeep A)).1 : Int)) (rndsX n (aKeep A)).2) (fun q h' hq => by
        obtain ⟨rfl, W, rfl, w1, w2⟩ := hq
        exact ⟨by rw [Nat.zero_add], W, rfl, w1, j2.trans' w2⟩)
      refine wa_iconst dX12_rounds_21 ?_
      refine wa_istore_n dX12_rounds_22 (by decide) ?_
      refine wa_iconst dX12_rounds_23 ?_
      refine wa_istore_n dX12_rounds_24 (by decide) ?_
      exact lp
    refine wa_iload_n dX12_rounds_0 rfl ?_
    refine wa_iconst dX12_rounds_1 ?_
    refine wa_bipush dX12_rounds_2 rfl ?_
    refine wa_callSf dX12_rounds_4 KX12_in LX12_79 (k1) (by decide) rfl rfl (Nat.le_of_ble_eq_true rfl) rfl rfl ?_
    refine wa_if_ne 17 dX12_rounds_7 (by decide) (by exact ⟨by omega, by omega⟩) (fun c_7 => ?_) (fun c_7 => ?_)
    · refine wa_aload_n dX12_rounds_17 rfl ?_
      refine wa_callV (ci := 12) dX12_rounds_18 KX12_keeps LX12_116 ⟨_, _, rfl, by decide⟩ o168 (hk) (by decide) rfl (Nat.le_of_ble_eq_true rfl) rfl rfl (fun r h' hq => ?_)
      obtain ⟨rfl, J, rfl, j1, j2, j3⟩ := hq
      exact rest J j1 j2
    · omega
  · rw [if_neg c] at k1
    have e : spRounds A n = (-2, aRf A 0) := by unfold spRounds; rw [if_neg c]
    rw [e]
    refine wa_iload_n dX12_rounds_0 rfl ?_
    refine wa_iconst dX12_rounds_1 ?_
    refine wa_bipush dX12_rounds_2 rfl ?_
    refine wa_callSf dX12_rounds_4 KX12_in LX12_79 (k1) (by decide) rfl rfl (Nat.le_of_ble_eq_true rfl) rfl rfl ?_
    refine wa_if_ne 17 dX12_rounds_7 (by decide) (by exact ⟨by omega, by omega⟩) (fun c_7 => ?_) (fun c_7 => ?_)
    · omega
    · refine wa_aload_n dX12_rounds_10 rfl ?_
      refine wa_bipush dX12_rounds_11 rfl ?_
      refine wa_callV (ci := 12) dX12_rounds_13 KX12_refuses LX12_113 ⟨_, _, rfl, by decide⟩ o168 (hrf) (by decide) rfl (Nat.le_of_ble_eq_true rfl) rfl rfl (fun r h' hq => ?_)
      obtain ⟨rfl, hq⟩ := hq
      refine wa_ireturn dX12_rounds_16 rfl ?_
      exact ⟨rfl, hq⟩
set_option maxRecDepth 20000 in
theorem st_cp1 (hL : LX S) {I : Nat → Nat → Int} {n : Int} (Q : Option tmV → tmH → Prop) (kk : ∀ J' : Nat → Nat → Int, (∀ a, a ≠ 171 → J' a = I a) → (∀ x, x < 984 → J' 171 x = I 169 x) → tmW kX12_still 9 0 0 27 [some (tR 168), some (tI (984 : Nat)), none] [] (S, J', L) Q) : ∀ (j k : Nat) (J : Nat → Nat → Int), k + j = 984 → (∀ a, a ≠ 171 → J a = I a) → (∀ x, x < k → J 171 x = I 169 x) → tmW kX12_still 9 0 0 2 [some (tR 168), some (tI k), none] [] (S, J, L) Q := by
  intro j
  have o168 := oX168 hL
  have r168_0 := rX168_0 hL
  have r168_1 := rX168_1 hL
  have r168_3 := rX168_3 hL
  have r168_4 := rX168_4 hL
  have r168_5 := rX168_5 hL
  have r168_6 := rX168_6 hL
  have r168_7 := rX168_7 hL
  have r168_8 := rX168_8 hL
  have r168_11 := rX168_11 hL
  have r168_13 := rX168_13 hL
  have r168_17 := rX168_17 hL
  have r168_18 := rX168_18 hL
  have r168_19 := rX168_19 hL
  have r168_21 := rX168_21 hL
  have r168_22 := rX168_22 hL
  have r168_23 := rX168_23 hL
  have r168_24 := rX168_24 hL
  have r168_25 := rX168_25 hL
  have r168_26 := rX168_26 hL
  have r168_27 := rX168_27 hL
  have r168_28 := rX168_28 hL
  have r168_29 := rX168_29 hL
  have r168_30 := rX168_30 hL
  have o171 := oX171 hL
  have o169 := oX169 hL
  induction j with
  | zero =>
    intro k J hk h1 h2
    obtain rfl : k = 984 := by omega
    have := kk J h1 h2
    refine wa_iload_n dX12_still_2 rfl ?_
    refine wa_sipush dX12_still_3 rfl ?_
    refine wa_icmp_ge 27 dX12_still_6 (by decide) (by exact ⟨by omega, by omega⟩) (by exact ⟨by omega, by omega⟩) (fun c_6 => ?_) (fun c_6 => ?_)
    · exact this
    · omega
  | succ j ih =>
    intro k J hk h1 h2
    have nx := ih (k + 1) (va_up J 171 (va_up (J 171) k (J 169 k))) (by omega) (fun a ha => by rw [vup_n ha]; exact h1 a ha) (fun x hx => by
      rw [vup_s]
      by_cases z : x = k
      · subst z; rw [vup_s, h1 169 (by decide)]
      · rw [vup_n z]; exact h2 x (by omega))
    refine wt_ir (fun hI => ?_)
    refine wa_iload_n dX12_still_2 rfl ?_
    refine wa_sipush dX12_still_3 rfl ?_
    refine wa_icmp_ge 27 dX12_still_6 (by decide) (by first | exact hI _ _ | exact ⟨by omega, by omega⟩) (by first | exact hI _ _ | exact ⟨by omega, by omega⟩) (fun c_6 => ?_) (fun c_6 => ?_)
    · omega
    · refine wa_aload_n dX12_still_9 rfl ?_
      refine wt_getR dX12_still_10 FX12_16 (by assumption) (by assumption) ?_
      refine wa_iload_n dX12_still_13 rfl ?_
      refine wa_aload_n dX12_still_14 rfl ?_
      refine wt_getR dX12_still_15 FX12_7 (by assumption) (by assumption) ?_
      refine wa_iload_n dX12_still_18 rfl ?_
      refine wt_iald k dX12_still_19 (by assumption) rfl (by omega) ?_
      refine wt_iast k dX12_still_20 (by assumption) rfl (by omega) (by first | exact hI _ _ | exact ⟨by omega, by omega⟩) ?_
      refine wa_iinc dX12_still_21 rfl (by decide) ?_
      refine wa_goto 2 dX12_still_24 (by decide) ?_
      exact nx
set_option maxRecDepth 20000 in
theorem st_cp2 (hL : LX S) {I : Nat → Nat → Int} {n : Int} (Q : Option tmV → tmH → Prop) (kk : ∀ J' : Nat → Nat → Int, (∀ a, a ≠ 174 → J' a = I a) → (∀ x, x < 5 → J' 174 x = I 173 x) → tmW kX12_still 9 0 0 52 [some (tR 168), some (tI (5 : Nat)), none] [] (S, J', L) Q) : ∀ (j k : Nat) (J : Nat → Nat → Int), k + j = 5 → (∀ a, a ≠ 174 → J a = I a) → (∀ x, x < k → J 174 x = I 173 x) → tmW kX12_still 9 0 0 29 [some (tR 168), some (tI k), none] [] (S, J, L) Q := by
  intro j
  have o168 := oX168 hL
  have r168_0 := rX168_0 hL
  have r168_1 := rX168_1 hL
  have r168_3 := rX168_3 hL
  have r168_4 := rX168_4 hL
  have r168_5 := rX168_5 hL
  have r168_6 := rX168_6 hL
  have r168_7 := rX168_7 hL
  have r168_8 := rX168_8 hL
  have r168_11 := rX168_11 hL
  have r168_13 := rX168_13 hL
  have r168_17 := rX168_17 hL
  have r168_18 := rX168_18 hL
  have r168_19 := rX168_19 hL
  have r168_21 := rX168_21 hL
  have r168_22 := rX168_22 hL
  have r168_23 := rX168_23 hL
  have r168_24 := rX168_24 hL
  have r168_25 := rX168_25 hL
  have r168_26 := rX168_26 hL
  have r168_27 := rX168_27 hL
  have r168_28 := rX168_28 hL
  have r168_29 := rX168_29 hL
  have r168_30 := rX168_30 hL
  have o174 := oX174 hL
  have o173 := oX173 hL
  induction j with
  | zero =>
    intro k J hk h1 h2
    obtain rfl : k = 5 := by omega
    have := kk J h1 h2
    refine wa_iload_n dX12_still_29 rfl ?_
    refine wa_iconst dX12_still_30 ?_
    refine wa_icmp_ge 52 dX12_still_31 (by decide) (by exact ⟨by omega, by omega⟩) (by exact ⟨by omega, by omega⟩) (fun c_31 => ?_) (fun c_31 => ?_)
    · exact this
    · omega
  | succ j ih =>
    intro k J hk h1 h2
    have nx := ih (k + 1) (va_up J 174 (va_up (J 174) k (J 173 k))) (by omega) (fun a ha => by rw [vup_n ha]; exact h1 a ha) (fun x hx => by
      rw [vup_s]
      by_cases z : x = k
      · subst z; rw [vup_s, h1 173 (by decide)]
      · rw [vup_n z]; exact h2 x (by omega))
    refine wt_ir (fun hI => ?_)
    refine wa_iload_n dX12_still_29 rfl ?_
    refine wa_iconst dX12_still_30 ?_
    refine wa_icmp_ge 52 dX12_still_31 (by decide) (by first | exact hI _ _ | exact ⟨by omega, by omega⟩) (by first | exact hI _ _ | exact ⟨by omega, by omega⟩) (fun c_31 => ?_) (fun c_31 => ?_)
    · omega
    · refine wa_aload_n dX12_still_34 rfl ?_
      refine wt_getR dX12_still_35 FX12_25 (by assumption) (by assumption) ?_
      refine wa_iload_n dX12_still_38 rfl ?_
      refine wa_aload_n dX12_still_39 rfl ?_
      refine wt_getR dX12_still_40 FX12_22 (by assumption) (by assumption) ?_
      refine wa_iload_n dX12_still_43 rfl ?_
      refine wt_iald k dX12_still_44 (by assumption) rfl (by omega) ?_
      refine wt_iast k dX12_still_45 (by assumption) rfl (by omega) (by first | exact hI _ _ | exact ⟨by omega, by omega⟩) ?_
      refine wa_iinc dX12_still_46 rfl (by decide) ?_
      refine wa_goto 29 dX12_still_49 (by decide) ?_
      exact nx
set_option maxRecDepth 20000 in
theorem st_cp3 (hL : LX S) {I : Nat → Nat → Int} {n : Int} (Q : Option tmV → tmH → Prop) (kk : ∀ J' : Nat → Nat → Int, (∀ a, a ≠ 169 → J' a = I a) → (∀ x, x < 984 → J' 169 x = I 171 x) → tmW kX12_still 9 0 0 84 [some (tR 168), some (tI n), some (tI (984 : Nat))] [] (S, J', L) Q) : ∀ (j k : Nat) (J : Nat → Nat → Int), k + j = 984 → (∀ a, a ≠ 169 → J a = I a) → (∀ x, x < k → J 169 x = I 171 x) → tmW kX12_still 9 0 0 59 [some (tR 168), some (tI n), some (tI k)] [] (S, J, L) Q := by
  intro j
  have o168 := oX168 hL
  have r168_0 := rX168_0 hL
  have r168_1 := rX168_1 hL
  have r168_3 := rX168_3 hL
  have r168_4 := rX168_4 hL
  have r168_5 := rX168_5 hL
  have r168_6 := rX168_6 hL
  have r168_7 := rX168_7 hL
  have r168_8 := rX168_8 hL
  have r168_11 := rX168_11 hL
  have r168_13 := rX168_13 hL
  have r168_17 := rX168_17 hL
  have r168_18 := rX168_18 hL
  have r168_19 := rX168_19 hL
  have r168_21 := rX168_21 hL
  have r168_22 := rX168_22 hL
  have r168_23 := rX168_23 hL
  have r168_24 := rX168_24 hL
  have r168_25 := rX168_25 hL
  have r168_26 := rX168_26 hL
  have r168_27 := rX168_27 hL
  have r168_28 := rX168_28 hL
  have r168_29 := rX168_29 hL
  have r168_30 := rX168_30 hL
  have o169 := oX169 hL
  have o171 := oX171 hL
  induction j with
  | zero =>
    intro k J hk h1 h2
    obtain rfl : k = 984 := by omega
    have := kk J h1 h2
    refine wa_iload_n dX12_still_59 rfl ?_
    refine wa_sipush dX12_still_60 rfl ?_
    refine wa_icmp_ge 84 dX12_still_63 (by decide) (by exact ⟨by omega, by omega⟩) (by exact ⟨by omega, by omega⟩) (fun c_63 => ?_) (fun c_63 => ?_)
    · exact this
    · omega
  | succ j ih =>
    intro k J hk h1 h2
    have nx := ih (k + 1) (va_up J 169 (va_up (J 169) k (J 171 k))) (by omega) (fun a ha => by rw [vup_n ha]; exact h1 a ha) (fun x hx => by
      rw [vup_s]
      by_cases z : x = k
      · subst z; rw [vup_s, h1 171 (by decide)]
      · rw [vup_n z]; exact h2 x (by omega))
    refine wt_ir (fun hI => ?_)
    refine wa_iload_n dX12_still_59 rfl ?_
    refine wa_sipush dX12_still_60 rfl ?_
    refine wa_icmp_ge 84 dX12_still_63 (by decide) (by first | exact hI _ _ | exact ⟨by omega, by omega⟩) (by first | exact hI _ _ | exact ⟨by omega, by omega⟩) (fun c_63 => ?_) (fun c_63 => ?_)
    · omega
    · refine wa_aload_n dX12_still_66 rfl ?_
      refine wt_getR dX12_still_67 FX12_7 (by assumption) (by assumption) ?_
      refine wa_iload_n dX12_still_70 rfl ?_
      refine wa_aload_n dX12_still_71 rfl ?_
      refine wt_getR dX12_still_72 FX12_16 (by assumption) (by assumption) ?_
      refine wa_iload_n dX12_still_75 rfl ?_
      refine wt_iald k dX12_still_76 (by assumption) rfl (by omega) ?_
      refine wt_iast k dX12_still_77 (by assumption) rfl (by omega) (by first | exact hI _ _ | exact ⟨by omega, by omega⟩) ?_
      refine wa_iinc dX12_still_78 rfl (by decide) ?_
      refine wa_goto 59 dX12_still_81 (by decide) ?_
      exact nx
set_option maxRecDepth 20000 in
theorem st_cp4 (hL : LX S) {I : Nat → Nat → Int} {n : Int} (Q : Option tmV → tmH → Prop) (kk : ∀ J' : Nat → Nat → Int, (∀ a, a ≠ 173 → J' a = I a) → (∀ x, x < 5 → J' 173 x = I 174 x) → tmW kX12_still 9 0 0 109 [some (tR 168), some (tI n), some (tI (5 : Nat))] [] (S, J', L) Q) : ∀ (j k : Nat) (J : Nat → Nat → Int), k + j = 5 → (∀ a, a ≠ 173 → J a = I a) → (∀ x, x < k → J 173 x = I 174 x) → tmW kX12_still 9 0 0 86 [some (tR 168), some (tI n), some (tI k)] [] (S, J, L) Q := by
  intro j
  have o168 := oX168 hL
  have r168_0 := rX168_0 hL
  have r168_1 := rX168_1 hL
  have r168_3 := rX168_3 hL
  have r168_4 := rX168_4 hL
  have r168_5 := rX168_5 hL
  have r168_6 := rX168_6 hL
  have r168_7 := rX168_7 hL
  have r168_8 := rX168_8 hL
  have r168_11 := rX168_11 hL
  have r168_13 := rX168_13 hL
  have r168_17 := rX168_17 hL
  have r168_18 := rX168_18 hL
  have r168_19 := rX168_19 hL
  have r168_21 := rX168_21 hL
  have r168_22 := rX168_22 hL
  have r168_23 := rX168_23 hL
  have r168_24 := rX168_24 hL
  have r168_25 := rX168_25 hL
  have r168_26 := rX168_26 hL
  have r168_27 := rX168_27 hL
  have r168_28 := rX168_28 hL
  have r168_29 := rX168_29 hL
  have r168_30 := rX168_30 hL
  have o173 := oX173 hL
  have o174 := oX174 hL
  induction j with
  | zero =>
    intro k J hk h1 h2
    obtain rfl : k = 5 := by omega
    have := kk J h1 h2
    refine wa_iload_n dX12_still_86 rfl ?_
    refine wa_iconst dX12_still_87 ?_
    refine wa_icmp_ge 109 dX12_still_88 (by decide) (by exact ⟨by omega, by omega⟩) (by exact ⟨by omega, by omega⟩) (fun c_88 => ?_) (fun c_88 => ?_)
    · exact this
    · omega
  | succ j ih =>
    intro k J hk h1 h2
    have nx := ih (k + 1) (va_up J 173 (va_up (J 173) k (J 174 k))) (by omega) (fun a ha => by rw [vup_n ha]; exact h1 a ha) (fun x hx => by
      rw [vup_s]
      by_cases z : x = k
      · subst z; rw [vup_s, h1 174 (by decide)]
      · rw [vup_n z]; exact h2 x (by omega))
    refine wt_ir (fun hI => ?_)
    refine wa_iload_n dX12_still_86 rfl ?_
    refine wa_iconst dX12_still_87 ?_
    refine wa_icmp_ge 109 dX12_still_88 (by decide) (by first | exact hI _ _ | exact ⟨by omega, by omega⟩) (by first | exact hI _ _ | exact ⟨by omega, by omega⟩) (fun c_88 => ?_) (fun c_88 => ?_)
    · omega
    · refine wa_aload_n dX12_still_91 rfl ?_
      refine wt_getR dX12_still_92 FX12_22 (by assumption) (by assumption) ?_
      refine wa_iload_n dX12_still_95 rfl ?_
      refine wa_aload_n dX12_still_96 rfl ?_
      refine wt_getR dX12_still_97 FX12_25 (by assumption) (by assumption) ?_
      refine wa_iload_n dX12_still_100 rfl ?_
      refine wt_iald k dX12_still_101 (by assumption) rfl (by omega) ?_
      refine wt_iast k dX12_still_102 (by assumption) rfl (by omega) (by first | exact hI _ _ | exact ⟨by omega, by omega⟩) ?_
      refine wa_iinc dX12_still_103 rfl (by decide) ?_
      refine wa_goto 86 dX12_still_106 (by decide) ?_
      exact nx
set_option maxRecDepth 20000 in
theorem c_mstill {I : Nat → Nat → Int} {m : Nat} {A : AS} (hL : LX S) (ha : AOK m A) (h : MR I A) (ht : RlT A.1.2) : tmC yX12_still kX12_still 9 0 0 [tR 168] (S, I, L) (MPost S I L (tI (spStill A)) A) := by
  refine tmC.mk (lv := [some (tR 168), none, none]) 2 ⟨rfl, by decide +kernel, by decide⟩ rfl rfl ?_
  have o168 := oX168 hL
  have r168_0 := rX168_0 hL
  have r168_1 := rX168_1 hL
  have r168_3 := rX168_3 hL
  have r168_4 := rX168_4 hL
  have r168_5 := rX168_5 hL
  have r168_6 := rX168_6 hL
  have r168_7 := rX168_7 hL
  have r168_8 := rX168_8 hL
  have r168_11 := rX168_11 hL
  have r168_13 := rX168_13 hL
  have r168_17 := rX168_17 hL
  have r168_18 := rX168_18 hL
  have r168_19 := rX168_19 hL
  have r168_21 := rX168_21 hL
  have r168_22 := rX168_22 hL
  have r168_23 := rX168_23 hL
  have r168_24 := rX168_24 hL
  have r168_25 := rX168_25 hL
  have r168_26 := rX168_26 hL
  have r168_27 := rX168_27 hL
  have r168_28 := rX168_28 hL
  have r168_29 := rX168_29 hL
  have r168_30 := rX168_30 hL
  have rb := rnd_b ha
  obtain ⟨h1, h2, h3, h4, h5, h6, h7, h8⟩ := id h
  -- the end
  have fin : ∀ (J : Nat → Nat → Int) (u : Int) (k : Nat), u = (rndX A).2.2 → MR J A → CFr I J → tmW kX12_still 9 0 0 109 [some (tR 168), some (tI u), some (tI k)] [] (S, J, L) (MPost S I L (tI (spStill A)) A) := fun J u k hu j1 j2 => by
    subst hu
    by_cases z : (rndX A).2.2 = 0
    · have e : spStill A = 1 := by unfold spStill; rw [if_pos z]
      rw [e]
      refine wa_iload_n dX12_still_109 rfl ?_
      refine wa_if_ne 117 dX12_still_110 (by decide) (by exact ⟨by omega, by omega⟩) (fun c_110 => ?_) (fun c_110 => ?_)
      · omega
      · refine wa_iconst dX12_still_113 ?_
        refine wa_goto 118 dX12_still_114 (by decide) ?_
        refine wa_ireturn dX12_still_118 rfl ?_
        exact ⟨rfl, J, rfl, j1, j2⟩
    · have e : spStill A = 0 := by unfold spStill; rw [if_neg z]
      rw [e]
      refine wa_iload_n dX12_still_109 rfl ?_
      refine wa_if_ne 117 dX12_still_110 (by decide) (by exact ⟨by omega, by omega⟩) (fun c_110 => ?_) (fun c_110 => ?_)
      · refine wa_iconst dX12_still_117 ?_
        refine wa_ireturn dX12_still_118 rfl ?_
        exact ⟨rfl, J, rfl, j1, j2⟩
      · omega
  have p52 : ∀ J : Nat → Nat → Int, (∀ a, a ≠ 171 → a ≠ 174 → J a = I a) → (∀ x, x < 984 → J 171 x = I 169 x) → (∀ x, x < 5 → J 174 x = I 173 x) → tmW kX12_still 9 0 0 52 [some (tR 168), some (tI (5 : Nat)), none] [] (S, J, L) (MPost S I L (tI (spStill A)) A) := fun J j1 j2 j3 => by
    have hJ : MR J A := ⟨by rw [j1 169 (by decide) (by decide)]; exact h1, by rw [j1 168 (by decide) (by decide)]; exact h2, fun i s hs => by rw [j1 170 (by decide) (by decide)]; exact h3 i s hs, by rw [j1 172 (by decide) (by decide)]; exact h4, fun j hj => by rw [j1 175 (by decide) (by decide)]; exact h5 j hj, fun j hj => by rw [j1 173 (by decide) (by decide)]; exact h6 j hj, by rw [j1 168 (by decide) (by decide)]; exact h7, fun i hi => by rw [j1 176 (by decide) (by decide)]; exact h8 i hi⟩
    have kg := c_mgoes (I := J) (L := L) hL ha hJ ht
    have rest : ∀ K : Nat → Nat → Int, GRF J K → tmW kX12_still 9 0 0 56 [some (tR 168), some (tI (5 : Nat)), none] [tI (rndX A).2.2] (S, K, L) (MPost S I L (tI (spStill A)) A) := fun K f => by
      have l3 := st_cp3 (L := L) hL (I := K) (n := (rndX A).2.2) (MPost S I L (tI (spStill A)) A) (fun M m1 m2 => by
        have l4 := st_cp4 (L := L) hL (I := M) (n := (rndX A).2.2) (MPost S I L (tI (spStill A)) A) (fun N n1 n2 => by
          have e9 : ∀ x, x < 984 → N 169 x = I 169 x := fun x hx => by rw [n1 169 (by decide), m2 x hx, f.1 171 (by omega)]; exact j2 x hx
          have e3 : ∀ x, x < 5 → N 173 x = I 173 x := fun x hx => by rw [n2 x hx, m1 174 (by decide), f.1 174 (by omega)]; exact j3 x hx
          have ee : ∀ a, a ≠ 173 → a ≠ 169 → (a < 168 ∨ (170 ≤ a ∧ a ≤ 172) ∨ (174 ≤ a ∧ a ≤ 178) ∨ a = 181 ∨ 190 ≤ a) → a ≠ 171 → a ≠ 174 → N a = I a := fun a a1 a2 a3 a4 a5 => by rw [n1 a a1, m1 a a2, f.1 a a3]; exact j1 a a4 a5
          have e8 : ∀ k, k ≠ 20 → k ≠ 31 → k ≠ 32 → N 168 k = I 168 k := fun k b1 b2 b3 => by rw [n1 168 (by decide), m1 168 (by decide), f.2.1 k b1 b2 b3, j1 168 (by decide) (by decide)]
          refine fin N _ _ rfl ⟨h1.cg ha.1 e9, by rw [e8 2 (by decide) (by decide) (by decide)]; exact h2, fun i s hs => by rw [ee 170 (by decide) (by decide) (by omega) (by decide) (by decide)]; exact h3 i s hs, by rw [ee 172 (by decide) (by decide) (by omega) (by decide) (by decide)]; exact h4, fun j hj => by rw [ee 175 (by decide) (by decide) (by omega) (by decide) (by decide)]; exact h5 j hj, fun j hj => by rw [e3 j hj]; exact h6 j hj, by rw [e8 9 (by decide) (by decide) (by decide)]; exact h7, fun i hi => by rw [ee 176 (by decide) (by decide) (by omega) (by decide) (by decide)]; exact h8 i hi⟩ (fun a b => ee a (by omega) (by omega) (by omega) (by omega) (by omega))) 5 0 M (by omega) (fun _ _ => rfl) (fun x hx => by omega)
        refine wa_iconst dX12_still_84 ?_
        refine wa_istore_n dX12_still_85 (by decide) ?_
        exact l4
        ) 984 0 K (by omega) (fun _ _ => rfl) (fun x hx => by omega)
      refine wa_istore_n dX12_still_56 (by decide) ?_
      refine wa_iconst dX12_still_57 ?_
      refine wa_istore_n dX12_still_58 (by decide) ?_
      exact l3
    refine wa_aload_n dX12_still_52 rfl ?_
    refine wa_callV (ci := 12) dX12_still_53 KX12_goesRound LX12_188 ⟨_, _, rfl, by decide⟩ o168 (kg) (by decide) rfl (Nat.le_of_ble_eq_true rfl) rfl rfl (fun r h' hq => ?_)
    obtain ⟨rfl, K, rfl, m1, m2, m3⟩ := hq
    exact rest K m3
  have l1 := st_cp1 (L := L) hL (I := I) (n := 0) (MPost S I L (tI (spStill A)) A) (fun J j1 j2 => by
    have l2 := st_cp2 (L := L) hL (I := J) (n := 0) (MPost S I L (tI (spStill A)) A) (fun K k1 k2 => p52 K (fun a a1 a2 => by rw [k1 a a2]; exact j1 a a1) (fun x hx => by rw [k1 171 (by decide)]; exact j2 x hx) (fun x hx => by rw [k2 x hx, j1 173 (by decide)])) 5 0 J (by omega) (fun _ _ => rfl) (fun x hx => by omega)
    refine wa_iconst dX12_still_27 ?_
    refine wa_istore_n dX12_still_28 (by decide) ?_
    exact l2
    ) 984 0 I (by omega) (fun _ _ => rfl) (fun x hx => by omega)
  refine wa_iconst dX12_still_0 ?_
  refine wa_istore_n dX12_still_1 (by decide) ?_
  exact l1
end S99z
