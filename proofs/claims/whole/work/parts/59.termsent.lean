/-! ===== 59: Text.termSentence: what was told is of GENERATION 0 ===== -/
def gzR (md : Nat → Int) : Nat → (Nat → Int) → Nat → Int
  | 0, g => g
  | k + 1, g => va_up (gzR md k g) (md k).toNat 0
section S59
variable {S : tmS} {I : Nat → Nat → Int} {L : Nat → Nat → Int64}
set_option maxRecDepth 20000 in
theorem gz_loop (hL : LX S) {n sz : Nat} (hn : I 2 0 = (n : Int)) (hn5 : n ≤ 50) (hsz : I 157 0 = (sz : Int)) (hsm : sz ≤ 120) (hmd : ∀ i, i < sz → 0 ≤ I 142 i ∧ I 142 i < n) (Q : Option tmV → tmH → Prop)
    (kk : ∀ x y : Option tmV, tmW kX9_termSentence 7 0 0 106 [some (tR 155), some (tR 2), x, y] [] (S, va_up I 6 (gzR (I 142) sz (I 6)), L) Q) : ∀ (m i : Nat) (y : Option tmV), i + m = sz →
    tmW kX9_termSentence 7 0 0 65 [some (tR 155), some (tR 2), some (tI i), y] [] (S, va_up I 6 (gzR (I 142) i (I 6)), L) Q := by
  intro m
  have o155 := oX155 hL
  have r155_0 := rX155_0 hL
  have r155_2 := rX155_2 hL
  have r155_3 := rX155_3 hL
  have r155_4 := rX155_4 hL
  have r155_5 := rX155_5 hL
  have r155_6 := rX155_6 hL
  have o157 := oX157 hL
  have r157_2 := rX157_2 hL
  have r157_3 := rX157_3 hL
  have r157_4 := rX157_4 hL
  have r157_5 := rX157_5 hL
  have o140 := oX140 hL
  have r140_0 := rX140_0 hL
  have r140_1 := rX140_1 hL
  have r140_2 := rX140_2 hL
  have o142 := oX142 hL
  have o2 := oX2 hL
  have r2_1 := rX2_1 hL
  have r2_2 := rX2_2 hL
  have r2_3 := rX2_3 hL
  have r2_4 := rX2_4 hL
  have r2_5 := rX2_5 hL
  have o6 := oX6 hL
  have e157 : ∀ g : Nat → Int, va_up I 6 g 157 = I 157 := fun g => vup_n (by decide)
  induction m with
  | zero =>
    intro i y him
    have : i = sz := by omega
    subst this
    refine wa_iload_n dX9_termSentence_65 rfl ?_
    refine wa_aload_n dX9_termSentence_66 rfl ?_
    refine wt_getR dX9_termSentence_67 FX9_24 (by assumption) (by assumption) ?_
    refine wt_getI dX9_termSentence_70 FX9_63 (by assumption) ?_
    try first | rw [e157, hsz] | skip
    refine wa_icmp_ge 106 dX9_termSentence_73 (by decide) (by exact ⟨by omega, by omega⟩) (by exact ⟨by omega, by omega⟩) (fun c_73 => ?_) (fun c_73 => ?_)
    · exact kk _ _
    · omega
  | succ m ih =>
    intro i y him
    have hi := hmd i (by omega)
    have hmo := c_madeOf (I := va_up I 6 (gzR (I 142) i (I 6))) (L := L) hL (i : Int) ⟨by omega, by omega⟩
    have hsv : svOf (va_up I 6 (gzR (I 142) i (I 6)) 142) 120 (-1) (i : Int) = I 142 i := by rw [vup_n (by decide)]; unfold svOf; rw [if_pos ⟨by omega, by omega⟩]; rfl
    rw [hsv] at hmo
    have hha := c_has (I := va_up I 6 (gzR (I 142) i (I 6))) (L := L) hL (n := n) (by rw [vup_n (by decide)]; exact hn) (I 142 i) ⟨by omega, by omega⟩
    rw [if_pos hi] at hha
    have nx := ih (i + 1) (some (tI (I 142 i))) (by omega)
    refine wa_iload_n dX9_termSentence_65 rfl ?_
    refine wa_aload_n dX9_termSentence_66 rfl ?_
    refine wt_getR dX9_termSentence_67 FX9_24 (by assumption) (by assumption) ?_
    refine wt_getI dX9_termSentence_70 FX9_63 (by assumption) ?_
    try first | rw [e157, hsz] | skip
    refine wa_icmp_ge 106 dX9_termSentence_73 (by decide) (by exact ⟨by omega, by omega⟩) (by exact ⟨by omega, by omega⟩) (fun c_73 => ?_) (fun c_73 => ?_)
    · omega
    · refine wa_aload_n dX9_termSentence_76 rfl ?_
      refine wt_getR dX9_termSentence_77 FX9_44 (by assumption) (by assumption) ?_
      refine wa_iload_n dX9_termSentence_80 rfl ?_
      refine wa_callVf (ci := 0) dX9_termSentence_81 KX0_madeOf LX9_105 ⟨_, _, rfl, by decide⟩ o140 (hmo) (by decide) rfl rfl (Nat.le_of_ble_eq_true rfl) rfl rfl ?_
      refine wa_istore_n dX9_termSentence_84 (by decide) ?_
      refine wa_aload_n dX9_termSentence_85 rfl ?_
      refine wa_iload_n dX9_termSentence_86 rfl ?_
      refine wa_callVf (ci := 8) dX9_termSentence_87 KX8_has LX9_109 ⟨_, _, rfl, by decide⟩ o2 (hha) (by decide) rfl rfl (Nat.le_of_ble_eq_true rfl) rfl rfl ?_
      refine wa_if_eq 100 dX9_termSentence_90 (by decide) (by exact ⟨by omega, by omega⟩) (fun c_90 => ?_) (fun c_90 => ?_)
      · omega
      · refine wa_aload_n dX9_termSentence_93 rfl ?_
        refine wt_getR dX9_termSentence_94 FX9_114 (by assumption) (by assumption) ?_
        refine wa_iload_n dX9_termSentence_97 rfl ?_
        refine wa_iconst dX9_termSentence_98 ?_
        refine wt_iast (I 142 i).toNat dX9_termSentence_99 (by assumption) (by omega) (by omega) (by exact ⟨by omega, by omega⟩) ?_
        refine wa_iinc dX9_termSentence_100 rfl (by decide) ?_
        refine wa_goto 65 dX9_termSentence_103 (by decide) ?_
        rw [vup_s, vup_vup]
        exact nx
end S59
