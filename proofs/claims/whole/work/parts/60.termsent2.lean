/-! ===== 60: Text.termSentence: the two become ALIKE ===== -/
section S60
variable {S : tmS} {I : Nat → Nat → Int} {L : Nat → Nat → Int64}
set_option maxRecDepth 20000 in
theorem ts_tail (hL : LX S) {n nb sz lf p : Nat} (hn : I 2 0 = (n : Int)) (hn5 : n ≤ 50) (hh : HO n (I 7)) (hsz : I 157 0 = (sz : Int)) (hlf : I 157 1 = (lf : Int)) (h1 : 1 ≤ lf) (h2 : lf ≤ sz) (hsm : sz ≤ 120) (hmd : ∀ i, i < sz → 0 ≤ I 142 i ∧ I 142 i < n) (hnb : I 155 1 = (nb : Int)) (hnb1 : nb ≤ 120) (hp : I 155 8 = (p : Int)) (hpn : p ≤ nb) (x y : Option tmV) :
    tmW kX9_termSentence 7 0 0 106 [some (tR 155), some (tR 2), x, y] [] (S, I, L) (tmF (some (tI (if tkB (I 156) nb p 59 then 1 else 0))) (S, atP (va_up I 7 (tmJn n (I 7) (I 7 (I 142 (lf - 1)).toNat) (I 7 (I 142 (sz - 1)).toNat))) (tkP (I 156) nb p 59), L)) := by
  have o155 := oX155 hL
  have r155_0 := rX155_0 hL
  have r155_2 := rX155_2 hL
  have r155_3 := rX155_3 hL
  have r155_4 := rX155_4 hL
  have r155_5 := rX155_5 hL
  have r155_6 := rX155_6 hL
  have o157 := oX157 hL
  have r157_2 := rX157_2 hL
  have r157_3 := rX157_3 hL
  have r157_4 := rX157_4 hL
  have r157_5 := rX157_5 hL
  have o140 := oX140 hL
  have r140_0 := rX140_0 hL
  have r140_1 := rX140_1 hL
  have r140_2 := rX140_2 hL
  have o142 := oX142 hL
  have o2 := oX2 hL
  have r2_1 := rX2_1 hL
  have r2_2 := rX2_2 hL
  have r2_3 := rX2_3 hL
  have r2_4 := rX2_4 hL
  have r2_5 := rX2_5 hL
  have ha := hmd (lf - 1) (by omega)
  have hb := hmd (sz - 1) (by omega)
  have m1 := c_madeOf (I := I) (L := L) hL ((lf : Int) - 1) ⟨by omega, by omega⟩
  have m2 := c_madeOf (I := I) (L := L) hL ((sz : Int) - 1) ⟨by omega, by omega⟩
  have s1 : svOf (I 142) 120 (-1) ((lf : Int) - 1) = I 142 (lf - 1) := by unfold svOf; rw [if_pos ⟨by omega, by omega⟩, show ((lf : Int) - 1).toNat = lf - 1 by omega]
  have s2 : svOf (I 142) 120 (-1) ((sz : Int) - 1) = I 142 (sz - 1) := by unfold svOf; rw [if_pos ⟨by omega, by omega⟩, show ((sz : Int) - 1).toNat = sz - 1 by omega]
  rw [s1] at m1
  rw [s2] at m2
  have hu := c_unite (I := I) (L := L) hL hn hn5 (fun t ht => ⟨(hh t ht).1, (hh t ht).2.1⟩) (I 142 (lf - 1)).toNat (I 142 (sz - 1)).toNat (by omega) (by omega)
  rw [show (((I 142 (lf - 1)).toNat : Nat) : Int) = I 142 (lf - 1) by omega, show (((I 142 (sz - 1)).toNat : Nat) : Int) = I 142 (sz - 1) by omega] at hu
  generalize hJ : va_up I 7 (tmJn n (I 7) (I 7 (I 142 (lf - 1)).toNat) (I 7 (I 142 (sz - 1)).toNat)) = J at hu
  have gJ : ∀ a, a ≠ 7 → J a = I a := fun a ha => by rw [← hJ]; exact vup_n ha
  have ht := c_take (I := J) (L := L) hL (n := nb) (p := p) (by rw [gJ 155 (by decide)]; exact hnb) hnb1 (by rw [gJ 155 (by decide)]; exact hp) hpn 59 ⟨by decide, by decide⟩
  rw [gJ 156 (by decide)] at ht
  refine wa_aload_n dX9_termSentence_106 rfl ?_
  refine wa_aload_n dX9_termSentence_107 rfl ?_
  refine wt_getR dX9_termSentence_108 FX9_44 (by assumption) (by assumption) ?_
  refine wa_aload_n dX9_termSentence_111 rfl ?_
  refine wt_getR dX9_termSentence_112 FX9_24 (by assumption) (by assumption) ?_
  refine wt_getI dX9_termSentence_115 FX9_66 (by assumption) ?_
  try first | rw [hlf] | rw [hsz] | skip
  refine wa_iconst dX9_termSentence_118 ?_
  refine wa_isub dX9_termSentence_119 ?_
  refine wa_callVf (ci := 0) dX9_termSentence_120 KX0_madeOf LX9_105 ⟨_, _, rfl, by decide⟩ o140 (m1) (by decide) rfl rfl (Nat.le_of_ble_eq_true rfl) rfl rfl ?_
  refine wa_aload_n dX9_termSentence_123 rfl ?_
  refine wt_getR dX9_termSentence_124 FX9_44 (by assumption) (by assumption) ?_
  refine wa_aload_n dX9_termSentence_127 rfl ?_
  refine wt_getR dX9_termSentence_128 FX9_24 (by assumption) (by assumption) ?_
  refine wt_getI dX9_termSentence_131 FX9_63 (by assumption) ?_
  try first | rw [hlf] | rw [hsz] | skip
  refine wa_iconst dX9_termSentence_134 ?_
  refine wa_isub dX9_termSentence_135 ?_
  refine wa_callVf (ci := 0) dX9_termSentence_136 KX0_madeOf LX9_105 ⟨_, _, rfl, by decide⟩ o140 (m2) (by decide) rfl rfl (Nat.le_of_ble_eq_true rfl) rfl rfl ?_
  refine wa_callVf (ci := 8) dX9_termSentence_139 KX8_unite LX9_117 ⟨_, _, rfl, by decide⟩ o2 (hu) (by decide) rfl rfl (Nat.le_of_ble_eq_true rfl) rfl rfl ?_
  refine wa_pop dX9_termSentence_142 rfl ?_
  refine wa_aload_n dX9_termSentence_143 rfl ?_
  refine wa_bipush dX9_termSentence_144 rfl ?_
  refine wa_callVf (ci := 9) dX9_termSentence_146 KX9_take LX9_76 ⟨_, _, rfl, by decide⟩ o155 (ht) (by decide) rfl rfl (Nat.le_of_ble_eq_true rfl) rfl rfl ?_
  refine wa_zreturn dX9_termSentence_149 rfl (by split <;> first | exact Or.inl rfl | exact Or.inr rfl) ?_
  exact ⟨rfl, rfl⟩
end S60
