/-! ===== 80: TriggerMatches: of, same, classes, told, sets, last, type, clear ===== -/
def rowX (X : TS) (w t : Nat) : Int := if w = 0 then X.2.1 t else if w = 1 then X.2.2.1 t else if w = 2 then X.2.2.2.1 t else if w = 3 then X.2.2.2.2.1 t else X.2.2.2.2.2 t
abbrev isT (A : AS) (t : Int) : Prop := 0 ≤ t ∧ t < A.1.1.1
def spOf (A : AS) (t w : Int) : Int × AS := if isT A t ∧ 0 ≤ w ∧ w ≤ 4 then (rowX A.1.1 w.toNat t.toNat, A) else (-2, aRf A 0)
def spSame (A : AS) (t u : Int) : Int × AS := if isT A t ∧ isT A u then ((if A.1.1.2.2.2.2.2 t.toNat = A.1.1.2.2.2.2.2 u.toNat then 1 else 0), A) else (-2, aRf A 0)
def spClasses (A : AS) : Int := (nCls A.1.1.1 A.1.1.2.2.2.2.2 : Int)
def spTold (A : AS) (w : Int) : Int × AS := if 0 ≤ w ∧ w ≤ 8 then ((if w < 3 then A.2.2.2.1 w.toNat else if w = 3 then (A.2.2.2.2.2.1 : Int) else if w = 4 then (A.1.1.1 : Int) else if w = 5 then (A.1.2.length : Int) else if w = 6 then A.2.2.1.1 else if w = 7 then A.2.2.1.2 else (A.2.1.length : Int)), A) else (-2, aRf A 0)
def spSets (A : AS) (w v : Int) : Int × AS := if w = 0 ∧ 0 ≤ v ∧ v ≤ 3 then (A.2.2.1.1, (A.1, A.2.1, (v, A.2.2.1.2), A.2.2.2)) else if w = 1 ∧ 0 ≤ v ∧ v ≤ 9 then (A.2.2.1.2, (A.1, A.2.1, (A.2.2.1.1, v), A.2.2.2)) else (-2, aRf A 0)
def spLast (A : AS) (w : Int) : Int × AS := if 0 ≤ w ∧ w ≤ 4 then (A.2.2.2.2.1 w.toNat, A) else (-2, aRf A 0)
def spType (A : AS) (c : Int) : Int × AS := if 0 ≤ c ∧ c ≤ 127 then (if A.2.2.2.2.2.1 < 120 then ((A.2.2.2.2.2.1 + 1 : Nat), (A.1, A.2.1, A.2.2.1, A.2.2.2.1, A.2.2.2.2.1, A.2.2.2.2.2.1 + 1, va_up A.2.2.2.2.2.2 A.2.2.2.2.2.1 c)) else (-4, aRf A 2)) else (-2, aRf A 0)
def spClear (A : AS) : Int × AS := ((A.2.2.2.2.2.1 : Int), (A.1, A.2.1, A.2.2.1, A.2.2.2.1, A.2.2.2.2.1, 0, A.2.2.2.2.2.2))
section S80
variable {S : tmS} {I : Nat → Nat → Int} {L : Nat → Nat → Int64}
theorem CR.up {m m' : Nat} {A : AS} (h : CR S I L m A) (hm : m ≤ m') : CR S I L m' A := ⟨h.1, h.2.1, h.2.2.1, h.2.2.2.1, h.2.2.2.2.fr hm (fun _ _ => rfl) rfl h.2.2.2.2.2.2.2.2.2⟩
theorem MFr.rfl' : MFr S I S I := fun _ _ _ => rfl
theorem CR.stay {m : Nat} {A B : AS} (h : CR S I L m A) {v w : Int} (hv : v = w) (hA : B = A) : CPost S I (m + 1) (tI w) B (some (tI v)) (S, I, L) := by
  subst hv; subst hA
  exact ⟨rfl, S, I, L, rfl, h.up (by omega), MFr.rfl'⟩
theorem c_rf0 {m : Nat} {A : AS} (h : CR S I L m A) (hm : m ≤ 1000) : tmC yX11_refuse kX11_refuse 1 0 0 [tR 0, tI (-2)] (S, I, L) (CPost S I (m + 1) (tI (-2)) (aRf A 0)) := c_refuseA h hm (j := 0) (by decide)
theorem c_rf1 {m : Nat} {A : AS} (h : CR S I L m A) (hm : m ≤ 1000) : tmC yX11_refuse kX11_refuse 1 0 0 [tR 0, tI (-3)] (S, I, L) (CPost S I (m + 1) (tI (-3)) (aRf A 1)) := c_refuseA h hm (j := 1) (by decide)
theorem c_rf2 {m : Nat} {A : AS} (h : CR S I L m A) (hm : m ≤ 1000) : tmC yX11_refuse kX11_refuse 1 0 0 [tR 0, tI (-4)] (S, I, L) (CPost S I (m + 1) (tI (-4)) (aRf A 2)) := c_refuseA h hm (j := 2) (by decide)
set_option maxRecDepth 20000 in
theorem c_of {m : Nat} {A : AS} (h : CR S I L m A) (hm : m ≤ 1000) (t w : Int) (ht : inR t) (hw : inR w) : tmC yX11_of kX11_of 2 0 0 [tR 0, tI t, tI w] (S, I, L) (CPost S I (m + 1) (tI (spOf A t w).1) (spOf A t w).2) := by
  refine tmC.mk (lv := [some (tR 0), some (tI t), some (tI w)]) 0 ⟨rfl, by decide +kernel, by decide⟩ rfl rfl ?_
  have hL := h.1
  have hT := h.2.1.tinv
  have o0 := oX0 hL
  have r0_0 := rX0_0 hL
  have r0_1 := rX0_1 hL
  have r0_2 := rX0_2 hL
  have r0_3 := rX0_3 hL
  have r0_4 := rX0_4 hL
  have r0_5 := rX0_5 hL
  have r0_6 := rX0_6 hL
  have r0_7 := rX0_7 hL
  have r0_8 := rX0_8 hL
  have o1 := oX1 hL
  have r1_0 := rX1_0 hL
  have r1_1 := rX1_1 hL
  have r1_3 := rX1_3 hL
  have o2 := oX2 hL
  have r2_1 := rX2_1 hL
  have r2_2 := rX2_2 hL
  have r2_3 := rX2_3 hL
  have r2_4 := rX2_4 hL
  have r2_5 := rX2_5 hL
  have o3 := oX3 hL
  have o4 := oX4 hL
  have o5 := oX5 hL
  have o6 := oX6 hL
  have o7 := oX7 hL
  have hhas := c_has (L := L) hL hT.1 t ht
  have hn5 := hT.2.1
  have hrf := c_rf0 h hm
  by_cases c1 : isT A t
  · rw [if_pos c1] at hhas
    have hrow := h.2.1.1.2 t.toNat (by have := c1.1; have := c1.2; omega)
    have c1' := c1.2
    by_cases c2 : 0 ≤ w ∧ w ≤ 4
    · have e : spOf A t w = (rowX A.1.1 w.toNat t.toNat, A) := by unfold spOf; rw [if_pos ⟨c1, c2⟩]
      rw [e]
      refine wa_aload_n dX11_of_0 rfl ?_
      refine wt_getR dX11_of_1 FX11_10 (by assumption) (by assumption) ?_
      refine wt_getR dX11_of_4 FX11_32 (by assumption) (by assumption) ?_
      refine wa_iload_n dX11_of_7 rfl ?_
      refine wa_callVf (ci := 8) dX11_of_8 KX8_has LX11_92 ⟨_, _, rfl, by decide⟩ o2 (hhas) (by decide) rfl rfl (Nat.le_of_ble_eq_true rfl) rfl rfl ?_
      refine wa_if_ne 21 dX11_of_11 (by decide) (by first | exact hw | exact ⟨by omega, by omega⟩) (fun c_11 => ?_) (fun c_11 => ?_)
      · refine wa_iload_n dX11_of_21 rfl ?_
        by_cases h0 : w = 0
        · refine wa_tableIn 56 dX11_of_22 hw (by omega) (by omega) (off := 34) (by subst h0; rfl) (by decide) ?_
          subst h0
          refine wa_aload_n dX11_of_56 rfl ?_
          refine wt_getR dX11_of_57 FX11_10 (by assumption) (by assumption) ?_
          refine wt_getR dX11_of_60 FX11_32 (by assumption) (by assumption) ?_
          refine wt_getR dX11_of_63 FX11_130 (by assumption) (by assumption) ?_
          refine wa_iload_n dX11_of_66 rfl ?_
          refine wt_iald t.toNat dX11_of_67 (by assumption) (by omega) (by omega) ?_
          refine wa_ireturn dX11_of_68 rfl ?_
          exact h.stay hrow.1 rfl
        · by_cases h1 : w = 1
          · refine wa_tableIn 69 dX11_of_22 hw (by omega) (by omega) (off := 47) (by subst h1; rfl) (by decide) ?_
            subst h1
            refine wa_aload_n dX11_of_69 rfl ?_
            refine wt_getR dX11_of_70 FX11_10 (by assumption) (by assumption) ?_
            refine wt_getR dX11_of_73 FX11_32 (by assumption) (by assumption) ?_
            refine wt_getR dX11_of_76 FX11_133 (by assumption) (by assumption) ?_
            refine wa_iload_n dX11_of_79 rfl ?_
            refine wt_iald t.toNat dX11_of_80 (by assumption) (by omega) (by omega) ?_
            refine wa_ireturn dX11_of_81 rfl ?_
            exact h.stay hrow.2.1 rfl
          · by_cases h2 : w = 2
            · refine wa_tableIn 82 dX11_of_22 hw (by omega) (by omega) (off := 60) (by subst h2; rfl) (by decide) ?_
              subst h2
              refine wa_aload_n dX11_of_82 rfl ?_
              refine wt_getR dX11_of_83 FX11_10 (by assumption) (by assumption) ?_
              refine wt_getR dX11_of_86 FX11_32 (by assumption) (by assumption) ?_
              refine wt_getR dX11_of_89 FX11_136 (by assumption) (by assumption) ?_
              refine wa_iload_n dX11_of_92 rfl ?_
              refine wt_iald t.toNat dX11_of_93 (by assumption) (by omega) (by omega) ?_
              refine wa_ireturn dX11_of_94 rfl ?_
              exact h.stay hrow.2.2.1 rfl
            · by_cases h3 : w = 3
              · refine wa_tableIn 95 dX11_of_22 hw (by omega) (by omega) (off := 73) (by subst h3; rfl) (by decide) ?_
                subst h3
                refine wa_aload_n dX11_of_95 rfl ?_
                refine wt_getR dX11_of_96 FX11_10 (by assumption) (by assumption) ?_
                refine wt_getR dX11_of_99 FX11_32 (by assumption) (by assumption) ?_
                refine wt_getR dX11_of_102 FX11_113 (by assumption) (by assumption) ?_
                refine wa_iload_n dX11_of_105 rfl ?_
                refine wt_iald t.toNat dX11_of_106 (by assumption) (by omega) (by omega) ?_
                refine wa_ireturn dX11_of_107 rfl ?_
                exact h.stay hrow.2.2.2.1 rfl
              · obtain rfl : w = 4 := by omega
                refine wa_tableIn 108 dX11_of_22 hw (by omega) (by omega) (off := 86) rfl (by decide) ?_
                refine wa_aload_n dX11_of_108 rfl ?_
                refine wt_getR dX11_of_109 FX11_10 (by assumption) (by assumption) ?_
                refine wt_getR dX11_of_112 FX11_32 (by assumption) (by assumption) ?_
                refine wt_getR dX11_of_115 FX11_139 (by assumption) (by assumption) ?_
                refine wa_iload_n dX11_of_118 rfl ?_
                refine wt_iald t.toNat dX11_of_119 (by assumption) (by omega) (by omega) ?_
                refine wa_ireturn dX11_of_120 rfl ?_
                exact h.stay hrow.2.2.2.2 rfl
      · omega
    · have e : spOf A t w = (-2, aRf A 0) := by unfold spOf; rw [if_neg (fun z => c2 z.2)]
      rw [e]
      refine wa_aload_n dX11_of_0 rfl ?_
      refine wt_getR dX11_of_1 FX11_10 (by assumption) (by assumption) ?_
      refine wt_getR dX11_of_4 FX11_32 (by assumption) (by assumption) ?_
      refine wa_iload_n dX11_of_7 rfl ?_
      refine wa_callVf (ci := 8) dX11_of_8 KX8_has LX11_92 ⟨_, _, rfl, by decide⟩ o2 (hhas) (by decide) rfl rfl (Nat.le_of_ble_eq_true rfl) rfl rfl ?_
      refine wa_if_ne 21 dX11_of_11 (by decide) (by first | exact hw | exact ⟨by omega, by omega⟩) (fun c_11 => ?_) (fun c_11 => ?_)
      · refine wa_iload_n dX11_of_21 rfl ?_
        refine wa_tableOut 121 dX11_of_22 hw (by omega) (by decide) ?_
        refine wa_aload_n dX11_of_121 rfl ?_
        refine wa_bipush dX11_of_122 rfl ?_
        refine wa_callV (ci := 11) dX11_of_124 KX11_refuse LX11_88 ⟨_, _, rfl, by decide⟩ o0 (hrf) (by decide) rfl (Nat.le_of_ble_eq_true rfl) rfl rfl (fun r h' hq => ?_)
        obtain ⟨rfl, hq⟩ := hq
        refine wa_ireturn dX11_of_127 rfl ?_
        exact ⟨rfl, hq⟩
      · omega
  · rw [if_neg c1] at hhas
    have e : spOf A t w = (-2, aRf A 0) := by unfold spOf; rw [if_neg (fun z => c1 z.1)]
    rw [e]
    refine wa_aload_n dX11_of_0 rfl ?_
    refine wt_getR dX11_of_1 FX11_10 (by assumption) (by assumption) ?_
    refine wt_getR dX11_of_4 FX11_32 (by assumption) (by assumption) ?_
    refine wa_iload_n dX11_of_7 rfl ?_
    refine wa_callVf (ci := 8) dX11_of_8 KX8_has LX11_92 ⟨_, _, rfl, by decide⟩ o2 (hhas) (by decide) rfl rfl (Nat.le_of_ble_eq_true rfl) rfl rfl ?_
    refine wa_if_ne 21 dX11_of_11 (by decide) (by first | exact hw | exact ⟨by omega, by omega⟩) (fun c_11 => ?_) (fun c_11 => ?_)
    · omega
    · refine wa_aload_n dX11_of_14 rfl ?_
      refine wa_bipush dX11_of_15 rfl ?_
      refine wa_callV (ci := 11) dX11_of_17 KX11_refuse LX11_88 ⟨_, _, rfl, by decide⟩ o0 (hrf) (by decide) rfl (Nat.le_of_ble_eq_true rfl) rfl rfl (fun r h' hq => ?_)
      obtain ⟨rfl, hq⟩ := hq
      refine wa_ireturn dX11_of_20 rfl ?_
      exact ⟨rfl, hq⟩
set_option maxRecDepth 20000 in
theorem c_same {m : Nat} {A : AS} (h : CR S I L m A) (hm : m ≤ 1000) (t u : Int) (ht : inR t) (hu : inR u) : tmC yX11_same kX11_same 2 0 0 [tR 0, tI t, tI u] (S, I, L) (CPost S I (m + 1) (tI (spSame A t u).1) (spSame A t u).2) := by
  refine tmC.mk (lv := [some (tR 0), some (tI t), some (tI u)]) 0 ⟨rfl, by decide +kernel, by decide⟩ rfl rfl ?_
  have hL := h.1
  have hT := h.2.1.tinv
  have o0 := oX0 hL
  have r0_0 := rX0_0 hL
  have r0_1 := rX0_1 hL
  have r0_2 := rX0_2 hL
  have r0_3 := rX0_3 hL
  have r0_4 := rX0_4 hL
  have r0_5 := rX0_5 hL
  have r0_6 := rX0_6 hL
  have r0_7 := rX0_7 hL
  have r0_8 := rX0_8 hL
  have o1 := oX1 hL
  have r1_0 := rX1_0 hL
  have r1_1 := rX1_1 hL
  have r1_3 := rX1_3 hL
  have o2 := oX2 hL
  have r2_1 := rX2_1 hL
  have r2_2 := rX2_2 hL
  have r2_3 := rX2_3 hL
  have r2_4 := rX2_4 hL
  have r2_5 := rX2_5 hL
  have o7 := oX7 hL
  have h1 := c_has (L := L) hL hT.1 t ht
  have h2 := c_has (L := L) hL hT.1 u hu
  have hn5 := hT.2.1
  have hrf := c_rf0 h hm
  by_cases c1 : isT A t
  · rw [if_pos c1] at h1
    have c1' := c1.2
    by_cases c2 : isT A u
    · rw [if_pos c2] at h2
      have c2' := c2.2
      have r1 := (h.2.1.1.2 t.toNat (by have := c1.1; omega)).2.2.2.2
      have r2 := (h.2.1.1.2 u.toNat (by have := c2.1; omega)).2.2.2.2
      have r1 : I 7 t.toNat = A.1.1.2.2.2.2.2 t.toNat := r1
      have r2 : I 7 u.toNat = A.1.1.2.2.2.2.2 u.toNat := r2
      have e : spSame A t u = ((if A.1.1.2.2.2.2.2 t.toNat = A.1.1.2.2.2.2.2 u.toNat then 1 else 0), A) := by unfold spSame; rw [if_pos ⟨c1, c2⟩]
      rw [e]
      refine wt_ir (fun hI => ?_)
      refine wa_aload_n dX11_same_0 rfl ?_
      refine wt_getR dX11_same_1 FX11_10 (by assumption) (by assumption) ?_
      refine wt_getR dX11_same_4 FX11_32 (by assumption) (by assumption) ?_
      refine wa_iload_n dX11_same_7 rfl ?_
      refine wa_callVf (ci := 8) dX11_same_8 KX8_has LX11_92 ⟨_, _, rfl, by decide⟩ o2 (h1) (by decide) rfl rfl (Nat.le_of_ble_eq_true rfl) rfl rfl ?_
      refine wa_if_eq 28 dX11_same_11 (by decide) (by first | exact hI _ _ | exact ⟨by omega, by omega⟩) (fun c_11 => ?_) (fun c_11 => ?_)
      · omega
      · refine wa_aload_n dX11_same_14 rfl ?_
        refine wt_getR dX11_same_15 FX11_10 (by assumption) (by assumption) ?_
        refine wt_getR dX11_same_18 FX11_32 (by assumption) (by assumption) ?_
        refine wa_iload_n dX11_same_21 rfl ?_
        refine wa_callVf (ci := 8) dX11_same_22 KX8_has LX11_92 ⟨_, _, rfl, by decide⟩ o2 (h2) (by decide) rfl rfl (Nat.le_of_ble_eq_true rfl) rfl rfl ?_
        refine wa_if_ne 35 dX11_same_25 (by decide) (by first | exact hI _ _ | exact ⟨by omega, by omega⟩) (fun c_25 => ?_) (fun c_25 => ?_)
        · refine wa_aload_n dX11_same_35 rfl ?_
          refine wt_getR dX11_same_36 FX11_10 (by assumption) (by assumption) ?_
          refine wt_getR dX11_same_39 FX11_32 (by assumption) (by assumption) ?_
          refine wt_getR dX11_same_42 FX11_139 (by assumption) (by assumption) ?_
          refine wa_iload_n dX11_same_45 rfl ?_
          refine wt_iald t.toNat dX11_same_46 (by assumption) (by omega) (by omega) ?_
          refine wa_aload_n dX11_same_47 rfl ?_
          refine wt_getR dX11_same_48 FX11_10 (by assumption) (by assumption) ?_
          refine wt_getR dX11_same_51 FX11_32 (by assumption) (by assumption) ?_
          refine wt_getR dX11_same_54 FX11_139 (by assumption) (by assumption) ?_
          refine wa_iload_n dX11_same_57 rfl ?_
          refine wt_iald u.toNat dX11_same_58 (by assumption) (by omega) (by omega) ?_
          refine wa_icmp_ne 66 dX11_same_59 (by decide) (by first | exact hI _ _ | exact ⟨by omega, by omega⟩) (by first | exact hI _ _ | exact ⟨by omega, by omega⟩) (fun c_59 => ?_) (fun c_59 => ?_)
          · refine wa_iconst dX11_same_66 ?_
            refine wa_ireturn dX11_same_67 rfl ?_
            exact h.stay (by rw [if_neg (by rw [← r1, ← r2]; exact c_59)]) rfl
          · refine wa_iconst dX11_same_62 ?_
            refine wa_goto 67 dX11_same_63 (by decide) ?_
            refine wa_ireturn dX11_same_67 rfl ?_
            exact h.stay (by rw [if_pos (by rw [← r1, ← r2]; exact c_59)]) rfl
        · omega
    · rw [if_neg c2] at h2
      have e : spSame A t u = (-2, aRf A 0) := by unfold spSame; rw [if_neg (fun z => c2 z.2)]
      rw [e]
      refine wa_aload_n dX11_same_0 rfl ?_
      refine wt_getR dX11_same_1 FX11_10 (by assumption) (by assumption) ?_
      refine wt_getR dX11_same_4 FX11_32 (by assumption) (by assumption) ?_
      refine wa_iload_n dX11_same_7 rfl ?_
      refine wa_callVf (ci := 8) dX11_same_8 KX8_has LX11_92 ⟨_, _, rfl, by decide⟩ o2 (h1) (by decide) rfl rfl (Nat.le_of_ble_eq_true rfl) rfl rfl ?_
      refine wa_if_eq 28 dX11_same_11 (by decide) (by exact ⟨by omega, by omega⟩) (fun c_11 => ?_) (fun c_11 => ?_)
      · omega
      · refine wa_aload_n dX11_same_14 rfl ?_
        refine wt_getR dX11_same_15 FX11_10 (by assumption) (by assumption) ?_
        refine wt_getR dX11_same_18 FX11_32 (by assumption) (by assumption) ?_
        refine wa_iload_n dX11_same_21 rfl ?_
        refine wa_callVf (ci := 8) dX11_same_22 KX8_has LX11_92 ⟨_, _, rfl, by decide⟩ o2 (h2) (by decide) rfl rfl (Nat.le_of_ble_eq_true rfl) rfl rfl ?_
        refine wa_if_ne 35 dX11_same_25 (by decide) (by exact ⟨by omega, by omega⟩) (fun c_25 => ?_) (fun c_25 => ?_)
        · omega
        · refine wa_aload_n dX11_same_28 rfl ?_
          refine wa_bipush dX11_same_29 rfl ?_
          refine wa_callV (ci := 11) dX11_same_31 KX11_refuse LX11_88 ⟨_, _, rfl, by decide⟩ o0 (hrf) (by decide) rfl (Nat.le_of_ble_eq_true rfl) rfl rfl (fun r h' hq => ?_)
          obtain ⟨rfl, hq⟩ := hq
          refine wa_ireturn dX11_same_34 rfl ?_
          exact ⟨rfl, hq⟩
  · rw [if_neg c1] at h1
    have e : spSame A t u = (-2, aRf A 0) := by unfold spSame; rw [if_neg (fun z => c1 z.1)]
    rw [e]
    refine wa_aload_n dX11_same_0 rfl ?_
    refine wt_getR dX11_same_1 FX11_10 (by assumption) (by assumption) ?_
    refine wt_getR dX11_same_4 FX11_32 (by assumption) (by assumption) ?_
    refine wa_iload_n dX11_same_7 rfl ?_
    refine wa_callVf (ci := 8) dX11_same_8 KX8_has LX11_92 ⟨_, _, rfl, by decide⟩ o2 (h1) (by decide) rfl rfl (Nat.le_of_ble_eq_true rfl) rfl rfl ?_
    refine wa_if_eq 28 dX11_same_11 (by decide) (by exact ⟨by omega, by omega⟩) (fun c_11 => ?_) (fun c_11 => ?_)
    · refine wa_aload_n dX11_same_28 rfl ?_
      refine wa_bipush dX11_same_29 rfl ?_
      refine wa_callV (ci := 11) dX11_same_31 KX11_refuse LX11_88 ⟨_, _, rfl, by decide⟩ o0 (hrf) (by decide) rfl (Nat.le_of_ble_eq_true rfl) rfl rfl (fun r h' hq => ?_)
      obtain ⟨rfl, hq⟩ := hq
      refine wa_ireturn dX11_same_34 rfl ?_
      exact ⟨rfl, hq⟩
    · omega
theorem c_classes (hL : LX S) {n : Nat} (hn : I 2 0 = (n : Int)) (hn5 : n ≤ 50) : tmC yX11_classes kX11_classes 2 0 0 [tR 0] (S, I, L) (tmF (some (tI (nCls n (I 7) : Nat))) (S, I, L)) := by
  refine tmC.mk (lv := [some (tR 0)]) 0 ⟨rfl, by decide +kernel, by decide⟩ rfl rfl ?_
  have o0 := oX0 hL
  have r0_0 := rX0_0 hL
  have r0_1 := rX0_1 hL
  have r0_2 := rX0_2 hL
  have r0_3 := rX0_3 hL
  have r0_4 := rX0_4 hL
  have r0_5 := rX0_5 hL
  have r0_6 := rX0_6 hL
  have r0_7 := rX0_7 hL
  have r0_8 := rX0_8 hL
  have o1 := oX1 hL
  have r1_0 := rX1_0 hL
  have r1_1 := rX1_1 hL
  have r1_3 := rX1_3 hL
  have o2 := oX2 hL
  have r2_1 := rX2_1 hL
  have r2_2 := rX2_2 hL
  have r2_3 := rX2_3 hL
  have r2_4 := rX2_4 hL
  have r2_5 := rX2_5 hL
  have hc := c_countClasses (L := L) hL hn hn5 n (Nat.le_refl _)
  refine wa_aload_n dX11_classes_0 rfl ?_
  refine wt_getR dX11_classes_1 FX11_10 (by assumption) (by assumption) ?_
  refine wt_getR dX11_classes_4 FX11_32 (by assumption) (by assumption) ?_
  refine wa_aload_n dX11_classes_7 rfl ?_
  refine wt_getR dX11_classes_8 FX11_10 (by assumption) (by assumption) ?_
  refine wt_getR dX11_classes_11 FX11_32 (by assumption) (by assumption) ?_
  refine wt_getI dX11_classes_14 FX11_102 (by assumption) ?_
  rw [hn]
  refine wa_callVf (ci := 8) dX11_classes_17 KX8_countClasses LX11_142 ⟨_, _, rfl, by decide⟩ o2 (hc) (by decide) rfl rfl (Nat.le_of_ble_eq_true rfl) rfl rfl ?_
  refine wa_ireturn dX11_classes_20 rfl ?_
  exact ⟨rfl, rfl⟩
theorem CR.ncls {m : Nat} {A : AS} (h : CR S I L m A) : ((nCls A.1.1.1 (I 7) : Nat) : Int) = spClasses A := by
  unfold spClasses
  congr 1
  exact nCls_congr (fun t ht => (h.2.1.1.2 t ht).2.2.2.2)
theorem c_classesA {m : Nat} {A : AS} (h : CR S I L m A) : tmC yX11_classes kX11_classes 2 0 0 [tR 0] (S, I, L) (CPost S I (m + 1) (tI (spClasses A)) A) := by
  have hT := h.2.1.tinv
  refine (c_classes h.1 hT.1 hT.2.1).weaken (fun q h' hq => ?_)
  obtain ⟨rfl, rfl⟩ := hq
  exact h.stay h.ncls rfl
set_option maxRecDepth 20000 in
theorem c_told {m : Nat} {A : AS} (h : CR S I L m A) (hm : m ≤ 1000) (w : Int) (hw : inR w) : tmC yX11_told kX11_told 2 0 0 [tR 0, tI w] (S, I, L) (CPost S I (m + 1) (tI (spTold A w).1) (spTold A w).2) := by
  refine tmC.mk (lv := [some (tR 0), some (tI w)]) 0 ⟨rfl, by decide +kernel, by decide⟩ rfl rfl ?_
  have hL := h.1
  have o0 := oX0 hL
  have r0_0 := rX0_0 hL
  have r0_1 := rX0_1 hL
  have r0_2 := rX0_2 hL
  have r0_3 := rX0_3 hL
  have r0_4 := rX0_4 hL
  have r0_5 := rX0_5 hL
  have r0_6 := rX0_6 hL
  have r0_7 := rX0_7 hL
  have r0_8 := rX0_8 hL
  have o1 := oX1 hL
  have r1_0 := rX1_0 hL
  have r1_1 := rX1_1 hL
  have r1_3 := rX1_3 hL
  have o2 := oX2 hL
  have r2_1 := rX2_1 hL
  have r2_2 := rX2_2 hL
  have r2_3 := rX2_3 hL
  have r2_4 := rX2_4 hL
  have r2_5 := rX2_5 hL
  have o14 := oX14 hL
  have r14_0 := rX14_0 hL
  have o155 := oX155 hL
  have r155_0 := rX155_0 hL
  have r155_2 := rX155_2 hL
  have r155_3 := rX155_3 hL
  have r155_4 := rX155_4 hL
  have r155_5 := rX155_5 hL
  have r155_6 := rX155_6 hL
  have o167 := oX167 hL
  have hrf := c_rf0 h hm
  obtain ⟨k1, k2, k3, k4, k5, k6⟩ := h.2.2.2.2
  obtain ⟨kk, p1, p2, p3, p4, p5⟩ := h.2.2.1
  by_cases c : 0 ≤ w ∧ w ≤ 8
  · have e : spTold A w = ((if w < 3 then A.2.2.2.1 w.toNat else if w = 3 then (A.2.2.2.2.2.1 : Int) else if w = 4 then (A.1.1.1 : Int) else if w = 5 then (A.1.2.length : Int) else if w = 6 then A.2.2.1.1 else if w = 7 then A.2.2.1.2 else (A.2.1.length : Int)), A) := by unfold spTold; rw [if_pos c]
    rw [e]
    have hoff : w < 3 → (#[51, 51, 51, 58, 66, 77, 85, 90, 95] : Array Int)[(w - 0).toNat]? = some 51 := fun z => by
      have : w = 0 ∨ w = 1 ∨ w = 2 := by omega
      rcases this with rfl | rfl | rfl
      all_goals rfl
    refine wa_iload_n dX11_told_0 rfl ?_
    by_cases h3 : w < 3
    · refine wa_tableIn 52 dX11_told_1 hw (by omega) (by omega) (off := 51) (hoff h3) (by decide) ?_
      refine wa_aload_n dX11_told_52 rfl ?_
      refine wt_getR dX11_told_53 FX11_77 (by assumption) (by assumption) ?_
      refine wa_iload_n dX11_told_56 rfl ?_
      refine wt_iald w.toNat dX11_told_57 (by assumption) (by omega) (by omega) ?_
      refine wa_ireturn dX11_told_58 rfl ?_
      exact h.stay (by rw [if_pos h3]; exact (k3 w.toNat (by omega)).1) rfl
    · by_cases e3 : w = 3
      · subst e3
        refine wa_tableIn 59 dX11_told_1 hw (by decide) (by decide) (off := 58) rfl (by decide) ?_
        refine wa_aload_n dX11_told_59 rfl ?_
        refine wt_getR dX11_told_60 FX11_66 (by assumption) (by assumption) ?_
        refine wt_getI dX11_told_63 FX11_215 (by assumption) ?_
        refine wa_ireturn dX11_told_66 rfl ?_
        exact h.stay k5.1 rfl
      · by_cases e4 : w = 4
        · subst e4
          refine wa_tableIn 67 dX11_told_1 hw (by decide) (by decide) (off := 66) rfl (by decide) ?_
          refine wa_aload_n dX11_told_67 rfl ?_
          refine wt_getR dX11_told_68 FX11_10 (by assumption) (by assumption) ?_
          refine wt_getR dX11_told_71 FX11_32 (by assumption) (by assumption) ?_
          refine wt_getI dX11_told_74 FX11_102 (by assumption) ?_
          refine wa_ireturn dX11_told_77 rfl ?_
          exact h.stay h.2.1.1.1 rfl
        · by_cases e5 : w = 5
          · subst e5
            refine wa_tableIn 78 dX11_told_1 hw (by decide) (by decide) (off := 77) rfl (by decide) ?_
            refine wa_aload_n dX11_told_78 rfl ?_
            refine wt_getR dX11_told_79 FX11_10 (by assumption) (by assumption) ?_
            refine wt_getI dX11_told_82 FX11_203 (by assumption) ?_
            refine wa_ireturn dX11_told_85 rfl ?_
            exact h.stay h.2.1.2.2.2.2.1.1 rfl
          · by_cases e6 : w = 6
            · subst e6
              refine wa_tableIn 86 dX11_told_1 hw (by decide) (by decide) (off := 85) rfl (by decide) ?_
              refine wa_aload_n dX11_told_86 rfl ?_
              refine wt_getI dX11_told_87 FX11_81 (by assumption) ?_
              refine wa_ireturn dX11_told_90 rfl ?_
              exact h.stay k1.1 rfl
            · by_cases e7 : w = 7
              · subst e7
                refine wa_tableIn 91 dX11_told_1 hw (by decide) (by decide) (off := 90) rfl (by decide) ?_
                refine wa_aload_n dX11_told_91 rfl ?_
                refine wt_getI dX11_told_92 FX11_85 (by assumption) ?_
                refine wa_ireturn dX11_told_95 rfl ?_
                exact h.stay k2.1 rfl
              · obtain rfl : w = 8 := by omega
                refine wa_tableIn 96 dX11_told_1 hw (by decide) (by decide) (off := 95) rfl (by decide) ?_
                refine wa_aload_n dX11_told_96 rfl ?_
                refine wt_getR dX11_told_97 FX11_19 (by assumption) (by assumption) ?_
                refine wt_getI dX11_told_100 FX11_239 (by assumption) ?_
                refine wa_ireturn dX11_told_103 rfl ?_
                exact h.stay p3 rfl
  · have e : spTold A w = (-2, aRf A 0) := by unfold spTold; rw [if_neg c]
    rw [e]
    refine wa_iload_n dX11_told_0 rfl ?_
    refine wa_tableOut 104 dX11_told_1 hw (by omega) (by decide) ?_
    refine wa_aload_n dX11_told_104 rfl ?_
    refine wa_bipush dX11_told_105 rfl ?_
    refine wa_callV (ci := 11) dX11_told_107 KX11_refuse LX11_88 ⟨_, _, rfl, by decide⟩ o0 (hrf) (by decide) rfl (Nat.le_of_ble_eq_true rfl) rfl rfl (fun r h' hq => ?_)
    obtain ⟨rfl, hq⟩ := hq
    refine wa_ireturn dX11_told_110 rfl ?_
    exact ⟨rfl, hq⟩
end S80
