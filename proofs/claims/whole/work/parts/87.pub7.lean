/-! ===== 87: TriggerMatches: drop, back ===== -/
section S87
variable {S : tmS} {I : Nat → Nat → Int} {L : Nat → Nat → Int64}
theorem NowR.cg {X Y : TS} {rl : RuL} (h : NowR S I L X rl) (e : TsEq X Y) : NowR S I L Y rl := by
  obtain ⟨h1, h2, h3, h4, h5, h6⟩ := h
  exact ⟨h1.cg e, h2.cg e, by rw [e.1]; exact h3, h4, h5, by rw [e.1]; exact h6⟩
set_option maxRecDepth 20000 in
theorem c_drop {m : Nat} {A : AS} (h : CR S I L m A) (hm : m ≤ 1000) (r0 : Int) (hr0 : inR r0) : tmC yX11_drop kX11_drop 6 0 0 [tR 0, tI r0] (S, I, L) (CPost S I (m + 1) (tI (spDrop A r0).1) (spDrop A r0).2) := by
  refine tmC.mk (lv := [some (tR 0), some (tI r0)]) 0 ⟨rfl, by decide +kernel, by decide⟩ rfl rfl ?_
  have hL := h.1
  have o0 := oX0 hL
  have r0_0 := rX0_0 hL
  have r0_1 := rX0_1 hL
  have r0_2 := rX0_2 hL
  have r0_3 := rX0_3 hL
  have r0_4 := rX0_4 hL
  have r0_5 := rX0_5 hL
  have r0_6 := rX0_6 hL
  have r0_7 := rX0_7 hL
  have r0_8 := rX0_8 hL
  have o1 := oX1 hL
  have r1_0 := rX1_0 hL
  have r1_1 := rX1_1 hL
  have r1_3 := rX1_3 hL
  have o14 := oX14 hL
  have r14_0 := rX14_0 hL
  have hrl := h.2.1.2.2.2.2.1
  have k1 := c_hasRule (L := L) hL hrl.1 r0 hr0
  have hrf := c_rf0 h hm
  have hk := c_keepA h
  by_cases c : 0 ≤ r0 ∧ r0 < A.1.2.length
  · obtain ⟨rr, rfl⟩ : ∃ rr : Nat, r0 = (rr : Int) := ⟨r0.toNat, by omega⟩
    have hrr : rr < A.1.2.length := by omega
    rw [if_pos c] at k1
    unfold spDrop
    rw [if_pos c]
    simp only [Int.toNat_natCast]
    have rest : ∀ (S' : tmS) (I' : Nat → Nat → Int), CR S' I' L m (aKeep A) → MFr S I S' I' → tmW kX11_drop 6 0 0 29 [some (tR 0), some (tI rr)] [] (S', I', L) (CPost S I (m + 1) (tI ((A.1.2.length : Int) - 1)) (aNow (aKeep A) (A.1.1, A.1.2.eraseIdx rr))) := by
      intro S' I' q1 q2
      have hL := q1.1
      have o0 := oX0 hL
      have r0_0 := rX0_0 hL
      have r0_1 := rX0_1 hL
      have r0_2 := rX0_2 hL
      have r0_3 := rX0_3 hL
      have r0_4 := rX0_4 hL
      have r0_5 := rX0_5 hL
      have r0_6 := rX0_6 hL
      have r0_7 := rX0_7 hL
      have r0_8 := rX0_8 hL
      have o1 := oX1 hL
      have r1_0 := rX1_0 hL
      have r1_1 := rX1_1 hL
      have r1_3 := rX1_3 hL
      have o143 := oX143 hL
      have r143_0 := rX143_0 hL
      have r143_1 := rX143_1 hL
      have r143_2 := rX143_2 hL
      have r143_4 := rX143_4 hL
      have r143_5 := rX143_5 hL
      have r143_6 := rX143_6 hL
      have hrl := q1.2.1.2.2.2.2.1
      have hrm : tmC yX6_removeRule kX6_removeRule 2 0 0 [tR 1, tI rr] (S', I', L) (tmF none ((S'.1, S'.2.1, S'.2.2.1, va_up S'.2.2.2 8 (tmShift (S'.2.2.2 8) rr A.1.2.length)), va_up I' 1 (va_up (I' 1) 2 (A.1.2.length - 1 : Nat)), L)) := c_removeRule (L := L) (I := I') hL hrl.1 hrl.2.1 q1.2.2.2.1.1 rr hrr
      have hl6 : A.1.2.length ≤ 6 := hrl.2.1
      generalize hJ : va_up I' 1 (va_up (I' 1) 2 (A.1.2.length - 1 : Nat)) = J at hrm
      have gJ : ∀ a, a ≠ 1 → J a = I' a := fun a ha => by rw [← hJ]; exact vup_n ha
      have hL2 : LX (S'.1, S'.2.1, S'.2.2.1, va_up S'.2.2.2 8 (tmShift (S'.2.2.2 8) rr A.1.2.length)) := LX.cp8 (R := S'.2.2.2) hL (fun a ha => vup_n ha)
      have hf := c_forget (I := J) (L := L) hL2
      have o0' := oX0 hL2
      have o1' := oX1 hL2
      have o143' := oX143 hL2
      have r0_0' := rX0_0 hL2
      have r0_4' := rX0_4 hL2
      generalize hK : va_up J 143 (va_up (J 143) 3 (-1)) = K at hf
      have gK : ∀ a, a ≠ 143 → K a = J a := fun a ha => by rw [← hK]; exact vup_n ha
      have gKI : ∀ a, a ≠ 1 → a ≠ 143 → K a = I' a := fun a a1 a2 => (gK a a2).trans (gJ a a1)
      have j12 : J 1 2 = ((A.1.2.length - 1 : Nat) : Int) := by rw [← hJ, vup_s, vup_s]
      have pf : PatFr S' I' (S'.1, S'.2.1, S'.2.2.1, va_up S'.2.2.2 8 (tmShift (S'.2.2.2 8) rr A.1.2.length)) K := ⟨Nat.le_refl _, fun a a1 _ => ⟨rfl, rfl, vup_n (by omega), gKI a (by omega) (by omega)⟩⟩
      have fin : CR (S'.1, S'.2.1, S'.2.2.1, va_up S'.2.2.2 8 (tmShift (S'.2.2.2 8) rr A.1.2.length)) K L (m + 1) (aNow (aKeep A) (A.1.1, A.1.2.eraseIdx rr)) := by
        obtain ⟨d1, d2, d3, d4, d5⟩ := q1
        obtain ⟨n1, n2, n3, ⟨us, n4⟩, n5, n6⟩ := d2
        have len : (A.1.2.eraseIdx rr).length = A.1.2.length - 1 := List.length_eraseIdx_of_lt hrr
        refine ⟨hL2, ⟨⟨by rw [gKI 2 (by decide) (by decide)]; exact n1.1, fun t ht => ?_⟩, n2, ?_, ⟨us, ?_⟩, ⟨?_, ?_, ?_⟩, fun x _ hx => ?_⟩, d3.fr pf (fun a a1 a2 => gKI a (by omega) (by omega)) (fun a a1 a2 => vup_n (by omega)), ⟨?_, ?_⟩, d5.fr (by omega) (fun a ha => gKI a (by omega) (by omega)) (by rw [gKI 155 (by decide) (by decide)]) (by rw [gKI 155 (by decide) (by decide)]; exact d5.2.2.2.2.2)⟩
        · rw [gKI 3 (by decide) (by decide), gKI 4 (by decide) (by decide), gKI 5 (by decide) (by decide), gKI 6 (by decide) (by decide), gKI 7 (by decide) (by decide)]; exact n1.2 t ht
        · rw [gKI 3 (by decide) (by decide), gKI 4 (by decide) (by decide), gKI 5 (by decide) (by decide), gKI 7 (by decide) (by decide), gKI 134 (by decide) (by decide)]; exact n3
        · unfold PlOK at n4 ⊢
          rw [gKI 133 (by decide) (by decide), gKI 135 (by decide) (by decide), gKI 134 (by decide) (by decide)]; exact n4
        · show K 1 2 = ((A.1.2.eraseIdx rr).length : Int)
          rw [gK 1 (by decide), j12, len]
        · show (A.1.2.eraseIdx rr).length ≤ 6
          rw [len]; omega
        · intro x w hx
          have hx : (A.1.2.eraseIdx rr)[x]? = some w := hx
          rw [List.getElem?_eraseIdx] at hx
          have n5 : RulesAt S' I' 1 A.1.2 := n5
          by_cases z : x < rr
          · rw [if_pos z] at hx
            obtain ⟨p, p1, p2⟩ := n5.2.2 x w hx
            refine ⟨p, ?_, p2.pf pf⟩
            show va_up S'.2.2.2 8 (tmShift (S'.2.2.2 8) rr A.1.2.length) 8 x = some p
            rw [vup_s]; unfold tmShift; rw [if_neg (by omega)]; exact p1
          · rw [if_neg z] at hx
            obtain ⟨p, p1, p2⟩ := n5.2.2 (x + 1) w hx
            have : x + 1 < A.1.2.length := by
              by_cases y : x + 1 < A.1.2.length
              · exact y
              · rw [List.getElem?_eq_none (by omega)] at hx; cases hx
            refine ⟨p, ?_, p2.pf pf⟩
            show va_up S'.2.2.2 8 (tmShift (S'.2.2.2 8) rr A.1.2.length) 8 x = some p
            rw [vup_s]; unfold tmShift; rw [if_pos (by omega)]; exact p1
        · have : K 143 3 = -1 := by rw [← hK, vup_s, vup_s]
          rw [this] at hx
          omega
        · intro x hx
          have o := d4.1
          show ∃ p, va_up S'.2.2.2 8 (tmShift (S'.2.2.2 8) rr A.1.2.length) 8 x = some p ∧ _
          rw [vup_s]; unfold tmShift
          by_cases z : rr ≤ x ∧ x + 1 < A.1.2.length
          · rw [if_pos z]; exact o (x + 1) (by omega)
          · rw [if_neg z]; exact o x hx
        · intro k hk9
          exact (d4.2 k hk9).fr (Nat.le_refl _) (fun _ _ => rfl) (fun q _ => by show va_up S'.2.2.2 8 _ (16 + 13 * k + 7) q = _; rw [vup_n (by omega)])
      refine wa_aload_n dX11_drop_29 rfl ?_
      refine wt_getR dX11_drop_30 FX11_10 (by assumption) (by assumption) ?_
      refine wa_iload_n dX11_drop_33 rfl ?_
      refine wa_callVf (ci := 6) dX11_drop_34 KX6_removeRule LX11_196 ⟨_, _, rfl, by decide⟩ o1 (hrm) (by decide) rfl rfl (Nat.le_of_ble_eq_true rfl) rfl rfl ?_
      refine wa_aload_n dX11_drop_37 rfl ?_
      refine wt_getR dX11_drop_38 FX11_48 o0' r0_4' ?_
      refine wa_callVf (ci := 4) dX11_drop_41 KX4_forget LX11_200 ⟨_, _, rfl, by decide⟩ o143' (hf) (by decide) rfl rfl (Nat.le_of_ble_eq_true rfl) rfl rfl ?_
      refine wa_aload_n dX11_drop_44 rfl ?_
      refine wt_getR dX11_drop_45 FX11_10 o0' r0_0' ?_
      refine wt_getI dX11_drop_48 FX11_203 o1' ?_
      rw [gK 1 (by decide), j12]
      refine wa_ireturn dX11_drop_51 rfl ?_
      exact ⟨by rw [show ((A.1.2.length - 1 : Nat) : Int) = (A.1.2.length : Int) - 1 by omega], _, K, L, rfl, fin, q2.trans' (fun a a1 a2 => gKI a (by omega) (by omega))⟩
    refine wa_aload_n dX11_drop_0 rfl ?_
    refine wt_getR dX11_drop_1 FX11_10 (by assumption) (by assumption) ?_
    refine wa_iload_n dX11_drop_4 rfl ?_
    refine wa_callVf (ci := 6) dX11_drop_5 KX6_hasRule LX11_158 ⟨_, _, rfl, by decide⟩ o1 (k1) (by decide) rfl rfl (Nat.le_of_ble_eq_true rfl) rfl rfl ?_
    refine wa_if_ne 18 dX11_drop_8 (by decide) (by exact ⟨by omega, by omega⟩) (fun c_8 => ?_) (fun c_8 => ?_)
    · refine wa_aload_n dX11_drop_18 rfl ?_
      refine wt_getR dX11_drop_19 FX11_19 (by assumption) (by assumption) ?_
      refine wa_aload_n dX11_drop_22 rfl ?_
      refine wt_getR dX11_drop_23 FX11_10 (by assumption) (by assumption) ?_
      refine wa_callV (ci := 7) dX11_drop_26 KX7_keep LX11_105 ⟨_, _, rfl, by decide⟩ o14 (hk) (by decide) rfl (Nat.le_of_ble_eq_true rfl) rfl rfl (fun r h' hq => ?_)
      obtain ⟨rfl, S', I', rfl, q1, q2, q3, q4, q5⟩ := hq
      exact rest S' I' q1 q2
    · omega
  · rw [if_neg c] at k1
    unfold spDrop
    rw [if_neg c]
    refine wa_aload_n dX11_drop_0 rfl ?_
    refine wt_getR dX11_drop_1 FX11_10 (by assumption) (by assumption) ?_
    refine wa_iload_n dX11_drop_4 rfl ?_
    refine wa_callVf (ci := 6) dX11_drop_5 KX6_hasRule LX11_158 ⟨_, _, rfl, by decide⟩ o1 (k1) (by decide) rfl rfl (Nat.le_of_ble_eq_true rfl) rfl rfl ?_
    refine wa_if_ne 18 dX11_drop_8 (by decide) (by exact ⟨by omega, by omega⟩) (fun c_8 => ?_) (fun c_8 => ?_)
    · omega
    · refine wa_aload_n dX11_drop_11 rfl ?_
      refine wa_bipush dX11_drop_12 rfl ?_
      refine wa_callV (ci := 11) dX11_drop_14 KX11_refuse LX11_88 ⟨_, _, rfl, by decide⟩ o0 (hrf) (by decide) rfl (Nat.le_of_ble_eq_true rfl) rfl rfl (fun r h' hq => ?_)
      obtain ⟨rfl, hq⟩ := hq
      refine wa_ireturn dX11_drop_17 rfl ?_
      exact ⟨rfl, hq⟩
set_option maxRecDepth 20000 in
theorem c_back {m : Nat} {A : AS} (h : CR S I L m A) (hm : m ≤ 1000) : tmC yX11_back kX11_back 7 0 0 [tR 0] (S, I, L) (CPost S I (m + 1) (tI (spBack A).1) (spBack A).2) := by
  refine tmC.mk (lv := [some (tR 0)]) 0 ⟨rfl, by decide +kernel, by decide⟩ rfl rfl ?_
  have hL := h.1
  have o0 := oX0 hL
  have r0_0 := rX0_0 hL
  have r0_1 := rX0_1 hL
  have r0_2 := rX0_2 hL
  have r0_3 := rX0_3 hL
  have r0_4 := rX0_4 hL
  have r0_5 := rX0_5 hL
  have r0_6 := rX0_6 hL
  have r0_7 := rX0_7 hL
  have r0_8 := rX0_8 hL
  have o1 := oX1 hL
  have r1_0 := rX1_0 hL
  have r1_1 := rX1_1 hL
  have r1_3 := rX1_3 hL
  have o14 := oX14 hL
  have r14_0 := rX14_0 hL
  have hrf := c_rf1 h hm
  obtain ⟨k, p1, p2, p3, p4, p5⟩ := id h.2.2.1
  by_cases c : A.2.1.length = 0
  · unfold spBack
    rw [if_pos c]
    refine wa_aload_n dX11_back_0 rfl ?_
    refine wt_getR dX11_back_1 FX11_19 (by assumption) (by assumption) ?_
    refine wt_getI dX11_back_4 FX11_239 (by assumption) ?_
    try rw [p3]
    refine wa_if_ne 17 dX11_back_7 (by decide) (by exact ⟨by omega, by omega⟩) (fun c_7 => ?_) (fun c_7 => ?_)
    · omega
    · refine wa_aload_n dX11_back_10 rfl ?_
      refine wa_bipush dX11_back_11 rfl ?_
      refine wa_callV (ci := 11) dX11_back_13 KX11_refuse LX11_88 ⟨_, _, rfl, by decide⟩ o0 (hrf) (by decide) rfl (Nat.le_of_ble_eq_true rfl) rfl rfl (fun r h' hq => ?_)
      obtain ⟨rfl, hq⟩ := hq
      refine wa_ireturn dX11_back_16 rfl ?_
      exact ⟨rfl, hq⟩
  · unfold spBack
    rw [if_neg c]
    have hgb := c_goBack (n := S.1) (C := S.2.1) (N := S.2.2.1) (R := S.2.2.2) (L := L) hL p1 p2 p3 (by omega) p4 (h.2.2.2.1.2 _ (Nat.mod_lt _ (by decide)))
    have hget : A.2.1[A.2.1.length - 1]? = some (A.2.1.getD (A.2.1.length - 1) (emX, [])) := by
      rw [List.getD_eq_getElem?_getD, List.getElem?_eq_getElem (by omega)]; rfl
    obtain ⟨s1, s2⟩ := p5 _ _ hget
    rw [show (k + 9 - A.2.1.length + (A.2.1.length - 1)) % 9 = (k + 8) % 9 by omega] at s1
    generalize hst : A.2.1.getD (A.2.1.length - 1) (emX, []) = st at *
    have hm9 : (k + 8) % 9 < 9 := Nat.mod_lt _ (by decide)
    have rest : ∀ (R' : Nat → Nat → Option Nat) (J : Nat → Nat → Int), CpS (va_up I 14 (va_up (va_up (I 14) 2 (A.2.1.length - 1 : Nat)) 1 ((k + 8) % 9 : Nat))) J 1 (16 + 13 * ((k + 8) % 9)) → (∀ q, q < 6 → R' (1 + 7) q = S.2.2.2 (16 + 13 * ((k + 8) % 9) + 7) q) → (∀ a, a ≠ 1 + 7 → R' a = S.2.2.2 a) → tmW kX11_back 7 0 0 28 [some (tR 0)] [] ((S.1, S.2.1, S.2.2.1, R'), J, L) (CPost S I (m + 1) (tI ((A.2.1.length : Int) - 1)) (st, A.2.1.take (A.2.1.length - 1), A.2.2)) := by
      intro R' J ⟨g1, g2, g3, g4⟩ g5 g6
      have g6 : ∀ a, a ≠ 8 → R' a = S.2.2.2 a := g6
      have hL2 : LX (S.1, S.2.1, S.2.2.1, R') := LX.cp8 (R := S.2.2.2) hL g6
      have gJ : ∀ a, a ≠ 14 → (a < 1 ∨ 8 ≤ a) → J a = I a := fun a a1 a2 => by rw [g4 a (by omega), vup_n a1]
      have j14 : J 14 = va_up (va_up (I 14) 2 (A.2.1.length - 1 : Nat)) 1 ((k + 8) % 9 : Nat) := by rw [g4 14 (by omega), vup_s]
      have pf : PatFr S I (S.1, S.2.1, S.2.2.1, R') J := ⟨Nat.le_refl _, fun a a1 _ => ⟨rfl, rfl, g6 a (by omega), gJ a (by omega) (by omega)⟩⟩
      have hnow : StC (S.1, S.2.1, S.2.2.1, R') J 1 st := by
        have h50 := s2.1.1
        refine s1.fr pf (by rw [g1, vup_n (by omega)]) (by rw [g2, vup_n (by omega)]) (fun i i1 i2 t ht => by rw [g3 i i1 i2 t (by omega), vup_n (by omega)]) (fun q hq => g5 q hq)
      obtain ⟨us, hus⟩ := h.2.1.2.2.2.1
      have hus' : PlOK J us := by unfold PlOK at hus ⊢; rw [gJ 133 (by omega) (by omega), gJ 135 (by omega) (by omega), gJ 134 (by omega) (by omega)]; exact hus
      have hsa := c_settleAll (L := L) hL2 hnow.1 s2.1 hus'
      have hpast : PastR (S.1, S.2.1, S.2.2.1, R') J (A.2.1.take (A.2.1.length - 1)) := by
        have hl : (A.2.1.take (A.2.1.length - 1)).length = A.2.1.length - 1 := by rw [List.length_take]; omega
        refine ⟨(k + 8) % 9, by rw [j14, vup_s], hm9, by rw [j14, vup_n (by decide), vup_s, hl], by omega, fun i st' hi => ?_⟩
        have hin : i < A.2.1.length - 1 := by
          by_cases z : i < A.2.1.length - 1
          · exact z
          · rw [List.getElem?_eq_none (by omega)] at hi; cases hi
        rw [List.getElem?_take_of_lt hin] at hi
        obtain ⟨a, b⟩ := p5 i st' hi
        refine ⟨?_, b⟩
        rw [hl, show ((k + 8) % 9 + 9 - (A.2.1.length - 1) + i) % 9 = (k + 9 - A.2.1.length + i) % 9 by omega]
        have hmm : (k + 9 - A.2.1.length + i) % 9 < 9 := Nat.mod_lt _ (by decide)
        exact a.fr pf (by rw [gJ _ (by omega) (by omega)]) (by rw [gJ _ (by omega) (by omega)]) (fun j _ _ t _ => by rw [gJ _ (by omega) (by omega)]) (fun q _ => by show R' _ q = _; rw [g6 _ (by omega)])
      have hpr : PRows (S.1, S.2.1, S.2.2.1, R') := ⟨(h.2.2.2.1.2 _ hm9).fr (Nat.le_refl _) (fun _ _ => rfl) (fun q hq => g5 q hq), fun j hj => (h.2.2.2.1.2 j hj).fr (Nat.le_refl _) (fun _ _ => rfl) (fun q _ => by show R' _ q = _; rw [g6 _ (by omega)])⟩
      have hmisc := h.2.2.2.2.fr (I' := J) (m' := m + 1) (by omega) (fun a ha => gJ a (by omega) (by omega)) (by rw [gJ 155 (by omega) (by omega)]) (by rw [gJ 155 (by omega) (by omega)]; exact h.2.2.2.2.2.2.2.2.2)
      have o0' := oX0 hL2
      have o14' := oX14 hL2
      have r0_1' := rX0_1 hL2
      have e14 : J 14 2 = ((A.2.1.length - 1 : Nat) : Int) := by rw [j14, vup_n (by decide), vup_s]
      refine wa_aload_n dX11_back_28 rfl ?_
      refine wa_callV (ci := 11) dX11_back_29 KX11_settleAll LX11_116 ⟨_, _, rfl, by decide⟩ o0' (hsa) (by decide) rfl (Nat.le_of_ble_eq_true rfl) rfl rfl (fun r h' hq => ?_)
      obtain ⟨rfl, I3, rfl, hs⟩ := hq
      refine wa_aload_n dX11_back_32 rfl ?_
      refine wt_getR dX11_back_33 FX11_19 o0' r0_1' ?_
      refine wt_getI dX11_back_36 FX11_239 o14' ?_
      rw [hs.1 14 (by decide) (by decide) (by decide) (by decide) (by decide), e14]
      refine wa_ireturn dX11_back_39 rfl ?_
      have hfin := CR.fin (L := L) (m := m + 1) (P := (A.2.1.take (A.2.1.length - 1), A.2.2)) hL2 s2.1 hs hnow.2 hpast hpr hmisc
      refine ⟨by rw [show ((A.2.1.length - 1 : Nat) : Int) = (A.2.1.length : Int) - 1 by omega], _, I3, L, rfl, ⟨hfin.1, hfin.2.1.cg (clX_self s2).symm, hfin.2.2⟩, fun a a1 a2 => ?_⟩
      rw [hs.1 a (by omega) (by omega) (by omega) (by omega) (by omega)]
      exact gJ a (by omega) (by omega)
    refine wa_aload_n dX11_back_0 rfl ?_
    refine wt_getR dX11_back_1 FX11_19 (by assumption) (by assumption) ?_
    refine wt_getI dX11_back_4 FX11_239 (by assumption) ?_
    try rw [p3]
    refine wa_if_ne 17 dX11_back_7 (by decide) (by exact ⟨by omega, by omega⟩) (fun c_7 => ?_) (fun c_7 => ?_)
    · refine wa_aload_n dX11_back_17 rfl ?_
      refine wt_getR dX11_back_18 FX11_19 (by assumption) (by assumption) ?_
      refine wa_aload_n dX11_back_21 rfl ?_
      refine wt_getR dX11_back_22 FX11_10 (by assumption) (by assumption) ?_
      refine wa_callV (ci := 7) dX11_back_25 KX7_goBack LX11_240 ⟨_, _, rfl, by decide⟩ o14 (hgb) (by decide) rfl (Nat.le_of_ble_eq_true rfl) rfl rfl (fun r h' hq => ?_)
      obtain ⟨rfl, R', J, rfl, g1, g2, g3⟩ := hq
      exact rest R' J g1 g2 g3
    · omega
end S87
