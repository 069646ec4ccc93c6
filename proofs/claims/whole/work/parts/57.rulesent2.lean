/-! ===== 57: Text.ruleSentence: the RULE is made ===== -/
theorem lxR_lt : ∀ p ∈ lxR, p.1 < 192 := by decide +kernel
theorem LX.fr {S S2 : tmS} {I I2 : Nat → Nat → Int} {L L2 : Nat → Nat → Int64} (h : LX S) (hf : tmFr S.1 (S, I, L) (S2, I2, L2)) (hs : S.1 ≤ S2.1) : LX S2 := by
  obtain ⟨h1, h2, h3⟩ := h
  refine ⟨by omega, fun i hi => ?_, fun p hp => ?_⟩
  · obtain ⟨f1, f2, f3, f4, f5⟩ := hf i (by omega)
    simp only at f1 f2
    rw [f1, f2]; exact h2 i hi
  · have hlt := lxR_lt p hp
    obtain ⟨f1, f2, f3, f4, f5⟩ := hf p.1 (by omega)
    simp only at f3
    rw [f3]; exact h3 p hp
section S57
variable {S : tmS} {L : Nat → Nat → Int64}
set_option maxRecDepth 20000 in
theorem rule_tail (hL : LX S) {I : Nat → Nat → Int} {sz nr m : Nat} (h0 : I 157 0 = (sz : Int)) (hsz : sz ≤ 120) (hnr : I 1 2 = (nr : Int)) (hnr6 : nr < 6) (x : Option tmV) (Q : Option tmV → tmH → Prop)
    (hq : ∀ (S2 : tmS) (I2 : Nat → Nat → Int) (L2 : Nat → Nat → Int64), tmFr S.1 (S, I, L) (S2, I2, L2) → S2.1 = S.1 + 5 → LPat S2 S.1 sz → PatEq I I2 S.1 157 sz → Q (some (tI 1)) ((S2.1, S2.2.1, S2.2.2.1, va_up S2.2.2.2 8 (va_up (S2.2.2.2 8) nr (some S.1))), va_up I2 1 (va_up (I2 1) 2 (nr + 1 : Nat)), L2)) :
    tmW kX9_ruleSentence 7 5 486 67 [some (tR 155), some (tI m), x] [] (S, I, L) Q := by
  have o155 := oX155 hL
  have r155_0 := rX155_0 hL
  have r155_2 := rX155_2 hL
  have r155_3 := rX155_3 hL
  have r155_4 := rX155_4 hL
  have r155_5 := rX155_5 hL
  have r155_6 := rX155_6 hL
  have o157 := oX157 hL
  have r157_2 := rX157_2 hL
  have r157_3 := rX157_3 hL
  have r157_4 := rX157_4 hL
  have r157_5 := rX157_5 hL
  have o158 := oX158 hL
  have o159 := oX159 hL
  have o160 := oX160 hL
  have o161 := oX161 hL
  have o1 := oX1 hL
  have r1_0 := rX1_0 hL
  have r1_1 := rX1_1 hL
  have r1_3 := rX1_3 hL
  have hpat : LPat S 157 120 := ⟨o157, r157_2, r157_3, r157_4, r157_5, o158, o159, o160, o161⟩
  have h192 : 192 ≤ S.1 := hL.1
  have hc := c_copied (L := L) hpat h0 hsz (Nat.le_refl _) (by omega)
  have after : ∀ (S2 : tmS) (I2 : Nat → Nat → Int) (L2 : Nat → Nat → Int64), tmFr S.1 (S, I, L) (S2, I2, L2) → S2.1 = S.1 + 5 → LPat S2 S.1 sz → PatEq I I2 S.1 157 sz → tmW kX9_ruleSentence 7 0 0 78 [some (tR 155), some (tI m), x] [tR S.1, tR 1] (S2, I2, L2) Q := by
    intro S2 I2 L2 f1 f2 f3 f4
    have hL2 := hL.fr f1 (by omega)
    have e1 : I2 1 2 = (nr : Int) := (congrFun (f1 1 (by omega)).2.2.2.1 2).trans hnr
    have ha := c_addRule (L := L2) hL2 e1 hnr6 f3.1
    have o1' := oX1 hL2
    have fin := hq S2 I2 L2 f1 f2 f3 f4
    refine wa_callVf (ci := 6) dX9_ruleSentence_78 KX6_addRule LX9_91 ⟨_, _, rfl, by decide⟩ o1' (ha) (by decide) rfl rfl (Nat.le_of_ble_eq_true rfl) rfl rfl ?_
    refine wa_iconst dX9_ruleSentence_81 ?_
    refine wa_zreturn dX9_ruleSentence_82 rfl (by first | exact Or.inl rfl | exact Or.inr rfl) ?_
    exact fin
  refine wa_aload_n dX9_ruleSentence_67 rfl ?_
  refine wt_getR dX9_ruleSentence_68 FX9_40 (by assumption) (by assumption) ?_
  refine wa_aload_n dX9_ruleSentence_71 rfl ?_
  refine wt_getR dX9_ruleSentence_72 FX9_24 (by assumption) (by assumption) ?_
  refine wa_budget (bc' := 0 + 5) (bs' := 0 + (4 * sz + 6)) (by omega) (by omega) ?_
  refine wa_callV (ci := 2) dX9_ruleSentence_75 KX2_copied LX9_87 ⟨_, _, rfl, by decide⟩ o157 (hc) (by decide) rfl (Nat.le_of_ble_eq_true rfl) rfl rfl (fun r h' hq => ?_)
  obtain ⟨rfl, f1, f2, f3, f4⟩ := hq
  obtain ⟨S2, I2, L2⟩ := h'
  exact after S2 I2 L2 f1 f2 f3 f4
end S57
