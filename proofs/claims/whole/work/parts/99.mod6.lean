/-! ===== 99: the reference: of, same, classes, told, sets, last, type, clear, back ===== -/
section S99
variable {S : tmS} {I : Nat → Nat → Int} {L : Nat → Nat → Int64}
set_option maxRecDepth 20000 in
theorem c_mof {m : Nat} {A : AS} (hL : LX S) (ha : AOK m A) (hm : m ≤ 1000) (h : MR I A) (t w : Int) (ht : inR t) (hw : inR w) : tmC yX12_of kX12_of 3 0 0 [tR 168, tI t, tI w] (S, I, L) (MPost S I L (tI (spOf A t w).1) (spOf A t w).2) := by
  refine tmC.mk (lv := [some (tR 168), some (tI t), some (tI w)]) 0 ⟨rfl, by decide +kernel, by decide⟩ rfl rfl ?_
  have o168 := oX168 hL
  have r168_0 := rX168_0 hL
  have r168_1 := rX168_1 hL
  have r168_3 := rX168_3 hL
  have r168_4 := rX168_4 hL
  have r168_5 := rX168_5 hL
  have r168_6 := rX168_6 hL
  have r168_7 := rX168_7 hL
  have r168_8 := rX168_8 hL
  have r168_11 := rX168_11 hL
  have r168_13 := rX168_13 hL
  have r168_17 := rX168_17 hL
  have r168_18 := rX168_18 hL
  have r168_19 := rX168_19 hL
  have r168_21 := rX168_21 hL
  have r168_22 := rX168_22 hL
  have r168_23 := rX168_23 hL
  have r168_24 := rX168_24 hL
  have r168_25 := rX168_25 hL
  have r168_26 := rX168_26 hL
  have r168_27 := rX168_27 hL
  have r168_28 := rX168_28 hL
  have r168_29 := rX168_29 hL
  have r168_30 := rX168_30 hL
  have o169 := oX169 hL
  have hrf := c_mrf0 (L := L) hL ha hm h
  have h50 := ha.1.1.1.1
  have k1 := c_misTerm (I := I) (L := L) hL h.mt.1 h50 t ht
  have k2 := c_min (h := (S, I, L)) w 0 4 hw ⟨by decide, by decide⟩ ⟨by decide, by decide⟩
  by_cases c1 : isT A t
  · rw [if_pos c1] at k1
    obtain ⟨tt, rfl⟩ : ∃ tt : Nat, t = (tt : Int) := ⟨t.toNat, by have := c1.1; omega⟩
    have c1' := c1.2
    by_cases c2 : 0 ≤ w ∧ w ≤ 4
    · rw [if_pos c2] at k2
      obtain ⟨ww, rfl⟩ : ∃ ww : Nat, w = (ww : Int) := ⟨w.toNat, by omega⟩
      have e : spOf A tt ww = (rowX A.1.1 ww tt, A) := by unfold spOf; rw [if_pos ⟨c1, c2⟩]; rfl
      rw [e]
      have hv : I 169 (2 + 50 * ww + tt) = rowX A.1.1 ww tt := by
        obtain ⟨q1, q2, q3, q4, q5⟩ := h.mt.2 tt (by omega)
        have : ww = 0 ∨ ww = 1 ∨ ww = 2 ∨ ww = 3 ∨ ww = 4 := by omega
        rcases this with rfl | rfl | rfl | rfl | rfl
        · exact q1
        · exact q2
        · exact q3
        · exact q4
        · exact q5
      refine wa_aload_n dX12_of_0 rfl ?_
      refine wa_iload_n dX12_of_1 rfl ?_
      refine wa_callVf (ci := 12) dX12_of_2 KX12_isTerm LX12_109 ⟨_, _, rfl, by decide⟩ o168 (k1) (by decide) rfl rfl (Nat.le_of_ble_eq_true rfl) rfl rfl ?_
      refine wa_if_eq 17 dX12_of_5 (by decide) (by exact ⟨by omega, by omega⟩) (fun c_5 => ?_) (fun c_5 => ?_)
      · omega
      · refine wa_iload_n dX12_of_8 rfl ?_
        refine wa_iconst dX12_of_9 ?_
        refine wa_iconst dX12_of_10 ?_
        refine wa_callSf dX12_of_11 KX12_in LX12_79 (k2) (by decide) rfl rfl (Nat.le_of_ble_eq_true rfl) rfl rfl ?_
        refine wa_if_ne 24 dX12_of_14 (by decide) (by exact ⟨by omega, by omega⟩) (fun c_14 => ?_) (fun c_14 => ?_)
        · refine wa_aload_n dX12_of_24 rfl ?_
          refine wt_getR dX12_of_25 FX12_7 (by assumption) (by assumption) ?_
          refine wa_iconst dX12_of_28 ?_
          refine wa_bipush dX12_of_29 rfl ?_
          refine wa_iload_n dX12_of_31 rfl ?_
          refine wa_imul dX12_of_32 ?_
          refine wa_iadd dX12_of_33 ?_
          refine wa_iload_n dX12_of_34 rfl ?_
          refine wa_iadd dX12_of_35 ?_
          refine wt_iald (2 + 50 * ww + tt) dX12_of_36 (by assumption) (by omega) (by omega) ?_
          refine wa_ireturn dX12_of_37 rfl ?_
          exact h.stay hv rfl
        · omega
    · rw [if_neg c2] at k2
      have e : spOf A tt w = (-2, aRf A 0) := by unfold spOf; rw [if_neg (fun z => c2 z.2)]
      rw [e]
      refine wa_aload_n dX12_of_0 rfl ?_
      refine wa_iload_n dX12_of_1 rfl ?_
      refine wa_callVf (ci := 12) dX12_of_2 KX12_isTerm LX12_109 ⟨_, _, rfl, by decide⟩ o168 (k1) (by decide) rfl rfl (Nat.le_of_ble_eq_true rfl) rfl rfl ?_
      refine wa_if_eq 17 dX12_of_5 (by decide) (by exact ⟨by omega, by omega⟩) (fun c_5 => ?_) (fun c_5 => ?_)
      · omega
      · refine wa_iload_n dX12_of_8 rfl ?_
        refine wa_iconst dX12_of_9 ?_
        refine wa_iconst dX12_of_10 ?_
        refine wa_callSf dX12_of_11 KX12_in LX12_79 (k2) (by decide) rfl rfl (Nat.le_of_ble_eq_true rfl) rfl rfl ?_
        refine wa_if_ne 24 dX12_of_14 (by decide) (by exact ⟨by omega, by omega⟩) (fun c_14 => ?_) (fun c_14 => ?_)
        · omega
        · refine wa_aload_n dX12_of_17 rfl ?_
          refine wa_bipush dX12_of_18 rfl ?_
          refine wa_callV (ci := 12) dX12_of_20 KX12_refuses LX12_113 ⟨_, _, rfl, by decide⟩ o168 (hrf) (by decide) rfl (Nat.le_of_ble_eq_true rfl) rfl rfl (fun r h' hq => ?_)
          obtain ⟨rfl, hq⟩ := hq
          refine wa_ireturn dX12_of_23 rfl ?_
          exact ⟨rfl, hq⟩
  · rw [if_neg c1] at k1
    have e : spOf A t w = (-2, aRf A 0) := by unfold spOf; rw [if_neg (fun z => c1 z.1)]
    rw [e]
    refine wa_aload_n dX12_of_0 rfl ?_
    refine wa_iload_n dX12_of_1 rfl ?_
    refine wa_callVf (ci := 12) dX12_of_2 KX12_isTerm LX12_109 ⟨_, _, rfl, by decide⟩ o168 (k1) (by decide) rfl rfl (Nat.le_of_ble_eq_true rfl) rfl rfl ?_
    refine wa_if_eq 17 dX12_of_5 (by decide) (by exact ⟨by omega, by omega⟩) (fun c_5 => ?_) (fun c_5 => ?_)
    · refine wa_aload_n dX12_of_17 rfl ?_
      refine wa_bipush dX12_of_18 rfl ?_
      refine wa_callV (ci := 12) dX12_of_20 KX12_refuses LX12_113 ⟨_, _, rfl, by decide⟩ o168 (hrf) (by decide) rfl (Nat.le_of_ble_eq_true rfl) rfl rfl (fun r h' hq => ?_)
      obtain ⟨rfl, hq⟩ := hq
      refine wa_ireturn dX12_of_23 rfl ?_
      exact ⟨rfl, hq⟩
    · omega
set_option maxRecDepth 20000 in
theorem c_msame {m : Nat} {A : AS} (hL : LX S) (ha : AOK m A) (hm : m ≤ 1000) (h : MR I A) (t u : Int) (ht : inR t) (hu : inR u) : tmC yX12_same kX12_same 3 0 0 [tR 168, tI t, tI u] (S, I, L) (MPost S I L (tI (spSame A t u).1) (spSame A t u).2) := by
  refine tmC.mk (lv := [some (tR 168), some (tI t), some (tI u)]) 0 ⟨rfl, by decide +kernel, by decide⟩ rfl rfl ?_
  have o168 := oX168 hL
  have r168_0 := rX168_0 hL
  have r168_1 := rX168_1 hL
  have r168_3 := rX168_3 hL
  have r168_4 := rX168_4 hL
  have r168_5 := rX168_5 hL
  have r168_6 := rX168_6 hL
  have r168_7 := rX168_7 hL
  have r168_8 := rX168_8 hL
  have r168_11 := rX168_11 hL
  have r168_13 := rX168_13 hL
  have r168_17 := rX168_17 hL
  have r168_18 := rX168_18 hL
  have r168_19 := rX168_19 hL
  have r168_21 := rX168_21 hL
  have r168_22 := rX168_22 hL
  have r168_23 := rX168_23 hL
  have r168_24 := rX168_24 hL
  have r168_25 := rX168_25 hL
  have r168_26 := rX168_26 hL
  have r168_27 := rX168_27 hL
  have r168_28 := rX168_28 hL
  have r168_29 := rX168_29 hL
  have r168_30 := rX168_30 hL
  have hrf := c_mrf0 (L := L) hL ha hm h
  have h50 := ha.1.1.1.1
  have k1 := c_misTerm (I := I) (L := L) hL h.mt.1 h50 t ht
  have k2 := c_misTerm (I := I) (L := L) hL h.mt.1 h50 u hu
  by_cases c1 : isT A t
  · rw [if_pos c1] at k1
    by_cases c2 : isT A u
    · rw [if_pos c2] at k2
      obtain ⟨tt, rfl⟩ : ∃ tt : Nat, t = (tt : Int) := ⟨t.toNat, by have := c1.1; omega⟩
      obtain ⟨uu, rfl⟩ : ∃ uu : Nat, u = (uu : Int) := ⟨u.toNat, by have := c2.1; omega⟩
      have c1' := c1.2
      have c2' := c2.2
      have hh := ha.1.1.1.2.2.1
      have x1 := hh tt (by omega)
      have x2 := hh uu (by omega)
      have k3 := c_mclassOf (I := I) (L := L) hL tt (by omega)
      have k4 := c_mclassOf (I := I) (L := L) hL uu (by omega)
      rw [(h.mt.2 tt (by omega)).2.2.2.2] at k3
      rw [(h.mt.2 uu (by omega)).2.2.2.2] at k4
      have e : spSame A tt uu = ((if A.1.1.2.2.2.2.2 tt = A.1.1.2.2.2.2.2 uu then 1 else 0), A) := by unfold spSame; rw [if_pos ⟨c1, c2⟩]; rfl
      rw [e]
      refine wa_aload_n dX12_same_0 rfl ?_
      refine wa_iload_n dX12_same_1 rfl ?_
      refine wa_callVf (ci := 12) dX12_same_2 KX12_isTerm LX12_109 ⟨_, _, rfl, by decide⟩ o168 (k1) (by decide) rfl rfl (Nat.le_of_ble_eq_true rfl) rfl rfl ?_
      refine wa_if_eq 37 dX12_same_5 (by decide) (by exact ⟨by omega, by omega⟩) (fun c_5 => ?_) (fun c_5 => ?_)
      · omega
      · refine wa_aload_n dX12_same_8 rfl ?_
        refine wa_iload_n dX12_same_9 rfl ?_
        refine wa_callVf (ci := 12) dX12_same_10 KX12_isTerm LX12_109 ⟨_, _, rfl, by decide⟩ o168 (k2) (by decide) rfl rfl (Nat.le_of_ble_eq_true rfl) rfl rfl ?_
        refine wa_if_eq 37 dX12_same_13 (by decide) (by exact ⟨by omega, by omega⟩) (fun c_13 => ?_) (fun c_13 => ?_)
        · omega
        · refine wa_aload_n dX12_same_16 rfl ?_
          refine wa_iload_n dX12_same_17 rfl ?_
          refine wa_callVf (ci := 12) dX12_same_18 KX12_classOf LX12_95 ⟨_, _, rfl, by decide⟩ o168 (k3) (by decide) rfl rfl (Nat.le_of_ble_eq_true rfl) rfl rfl ?_
          refine wa_aload_n dX12_same_21 rfl ?_
          refine wa_iload_n dX12_same_22 rfl ?_
          refine wa_callVf (ci := 12) dX12_same_23 KX12_classOf LX12_95 ⟨_, _, rfl, by decide⟩ o168 (k4) (by decide) rfl rfl (Nat.le_of_ble_eq_true rfl) rfl rfl ?_
          refine wa_icmp_ne 33 dX12_same_26 (by decide) (by exact ⟨by omega, by omega⟩) (by exact ⟨by omega, by omega⟩) (fun c_26 => ?_) (fun c_26 => ?_)
          · refine wa_iconst dX12_same_33 ?_
            refine wa_goto 43 dX12_same_34 (by decide) ?_
            refine wa_ireturn dX12_same_43 rfl ?_
            exact h.stay (by rw [if_neg c_26]) rfl
          · refine wa_iconst dX12_same_29 ?_
            refine wa_goto 43 dX12_same_30 (by decide) ?_
            refine wa_ireturn dX12_same_43 rfl ?_
            exact h.stay (by rw [if_pos c_26]) rfl
    · rw [if_neg c2] at k2
      have e : spSame A t u = (-2, aRf A 0) := by unfold spSame; rw [if_neg (fun z => c2 z.2)]
      rw [e]
      refine wa_aload_n dX12_same_0 rfl ?_
      refine wa_iload_n dX12_same_1 rfl ?_
      refine wa_callVf (ci := 12) dX12_same_2 KX12_isTerm LX12_109 ⟨_, _, rfl, by decide⟩ o168 (k1) (by decide) rfl rfl (Nat.le_of_ble_eq_true rfl) rfl rfl ?_
      refine wa_if_eq 37 dX12_same_5 (by decide) (by exact ⟨by omega, by omega⟩) (fun c_5 => ?_) (fun c_5 => ?_)
      · omega
      · refine wa_aload_n dX12_same_8 rfl ?_
        refine wa_iload_n dX12_same_9 rfl ?_
        refine wa_callVf (ci := 12) dX12_same_10 KX12_isTerm LX12_109 ⟨_, _, rfl, by decide⟩ o168 (k2) (by decide) rfl rfl (Nat.le_of_ble_eq_true rfl) rfl rfl ?_
        refine wa_if_eq 37 dX12_same_13 (by decide) (by exact ⟨by omega, by omega⟩) (fun c_13 => ?_) (fun c_13 => ?_)
        · refine wa_aload_n dX12_same_37 rfl ?_
          refine wa_bipush dX12_same_38 rfl ?_
          refine wa_callV (ci := 12) dX12_same_40 KX12_refuses LX12_113 ⟨_, _, rfl, by decide⟩ o168 (hrf) (by decide) rfl (Nat.le_of_ble_eq_true rfl) rfl rfl (fun r h' hq => ?_)
          obtain ⟨rfl, hq⟩ := hq
          refine wa_ireturn dX12_same_43 rfl ?_
          exact ⟨rfl, hq⟩
        · omega
  · rw [if_neg c1] at k1
    have e : spSame A t u = (-2, aRf A 0) := by unfold spSame; rw [if_neg (fun z => c1 z.1)]
    rw [e]
    refine wa_aload_n dX12_same_0 rfl ?_
    refine wa_iload_n dX12_same_1 rfl ?_
    refine wa_callVf (ci := 12) dX12_same_2 KX12_isTerm LX12_109 ⟨_, _, rfl, by decide⟩ o168 (k1) (by decide) rfl rfl (Nat.le_of_ble_eq_true rfl) rfl rfl ?_
    refine wa_if_eq 37 dX12_same_5 (by decide) (by exact ⟨by omega, by omega⟩) (fun c_5 => ?_) (fun c_5 => ?_)
    · refine wa_aload_n dX12_same_37 rfl ?_
      refine wa_bipush dX12_same_38 rfl ?_
      refine wa_callV (ci := 12) dX12_same_40 KX12_refuses LX12_113 ⟨_, _, rfl, by decide⟩ o168 (hrf) (by decide) rfl (Nat.le_of_ble_eq_true rfl) rfl rfl (fun r h' hq => ?_)
      obtain ⟨rfl, hq⟩ := hq
      refine wa_ireturn dX12_same_43 rfl ?_
      exact ⟨rfl, hq⟩
    · omega
set_option maxRecDepth 20000 in
theorem c_mclasses {m : Nat} {A : AS} (hL : LX S) (ha : AOK m A) (h : MR I A) : tmC yX12_classes kX12_classes 3 0 0 [tR 168] (S, I, L) (MPost S I L (tI (spClasses A)) A) := by
  refine tmC.mk (lv := [some (tR 168)]) 0 ⟨rfl, by decide +kernel, by decide⟩ rfl rfl ?_
  have o168 := oX168 hL
  have r168_0 := rX168_0 hL
  have r168_1 := rX168_1 hL
  have r168_3 := rX168_3 hL
  have r168_4 := rX168_4 hL
  have r168_5 := rX168_5 hL
  have r168_6 := rX168_6 hL
  have r168_7 := rX168_7 hL
  have r168_8 := rX168_8 hL
  have r168_11 := rX168_11 hL
  have r168_13 := rX168_13 hL
  have r168_17 := rX168_17 hL
  have r168_18 := rX168_18 hL
  have r168_19 := rX168_19 hL
  have r168_21 := rX168_21 hL
  have r168_22 := rX168_22 hL
  have r168_23 := rX168_23 hL
  have r168_24 := rX168_24 hL
  have r168_25 := rX168_25 hL
  have r168_26 := rX168_26 hL
  have r168_27 := rX168_27 hL
  have r168_28 := rX168_28 hL
  have r168_29 := rX168_29 hL
  have r168_30 := rX168_30 hL
  have o169 := oX169 hL
  have hn := h.mt.1
  have k1 := c_mnCls (I := I) (L := L) hL h.mt ha.1.1.1.1 (Nat.le_refl _)
  refine wa_aload_n dX12_classes_0 rfl ?_
  refine wa_aload_n dX12_classes_1 rfl ?_
  refine wt_getR dX12_classes_2 FX12_7 (by assumption) (by assumption) ?_
  refine wa_iconst dX12_classes_5 ?_
  refine wt_iald 0 dX12_classes_6 (by assumption) rfl (by omega) ?_
  try rw [hn]
  refine wa_callVf (ci := 12) dX12_classes_7 KX12_classesOf LX12_126 ⟨_, _, rfl, by decide⟩ o168 (k1) (by decide) rfl rfl (Nat.le_of_ble_eq_true rfl) rfl rfl ?_
  refine wa_ireturn dX12_classes_10 rfl ?_
  exact h.stay rfl rfl
set_option maxRecDepth 20000 in
theorem c_mtoldOf {m : Nat} {A : AS} (hL : LX S) (ha : AOK m A) (h : MR I A) (w : Nat) (hw8 : w ≤ 8) : tmC yX12_toldOf kX12_toldOf 1 0 0 [tR 168, tI w] (S, I, L) (tmF (some (tI (spTold A w).1)) (S, I, L)) := by
  refine tmC.mk (lv := [some (tR 168), some (tI w)]) 0 ⟨rfl, by decide +kernel, by decide⟩ rfl rfl ?_
  have o168 := oX168 hL
  have r168_0 := rX168_0 hL
  have r168_1 := rX168_1 hL
  have r168_3 := rX168_3 hL
  have r168_4 := rX168_4 hL
  have r168_5 := rX168_5 hL
  have r168_6 := rX168_6 hL
  have r168_7 := rX168_7 hL
  have r168_8 := rX168_8 hL
  have r168_11 := rX168_11 hL
  have r168_13 := rX168_13 hL
  have r168_17 := rX168_17 hL
  have r168_18 := rX168_18 hL
  have r168_19 := rX168_19 hL
  have r168_21 := rX168_21 hL
  have r168_22 := rX168_22 hL
  have r168_23 := rX168_23 hL
  have r168_24 := rX168_24 hL
  have r168_25 := rX168_25 hL
  have r168_26 := rX168_26 hL
  have r168_27 := rX168_27 hL
  have r168_28 := rX168_28 hL
  have r168_29 := rX168_29 hL
  have r168_30 := rX168_30 hL
  have o169 := oX169 hL
  have o172 := oX172 hL
  have o175 := oX175 hL
  obtain ⟨h1, h2, h3, h4, h5, h6, h7, h8⟩ := id h
  have hw : inR (w : Int) := ⟨by omega, by omega⟩
  have e : (spTold A w).1 = if (w : Int) < 3 then A.2.2.2.1 w else if (w : Int) = 3 then (A.2.2.2.2.2.1 : Int) else if (w : Int) = 4 then (A.1.1.1 : Int) else if (w : Int) = 5 then (A.1.2.length : Int) else if (w : Int) = 6 then A.2.2.1.1 else if (w : Int) = 7 then A.2.2.1.2 else (A.2.1.length : Int) := by
    unfold spTold; rw [if_pos ⟨by omega, by omega⟩]; rfl
  rw [e]
  have hoff : w < 3 → (#[51, 51, 51, 58, 63, 70, 82, 82, 77] : Array Int)[((w : Int) - 0).toNat]? = some 51 := fun z => by
    have : w = 0 ∨ w = 1 ∨ w = 2 := by omega
    rcases this with rfl | rfl | rfl
    all_goals rfl
  refine wa_iload_n dX12_toldOf_0 rfl ?_
  by_cases z3 : w < 3
  · refine wa_tableIn 52 dX12_toldOf_1 hw (by omega) (by omega) (off := 51) (hoff z3) (by decide) ?_
    refine wa_aload_n dX12_toldOf_52 rfl ?_
    refine wt_getR dX12_toldOf_53 FX12_28 (by assumption) (by assumption) ?_
    refine wa_iload_n dX12_toldOf_56 rfl ?_
    refine wt_iald w dX12_toldOf_57 (by assumption) rfl (by omega) ?_
    refine wa_ireturn dX12_toldOf_58 rfl ?_
    exact ⟨by rw [if_pos (by omega), h5 w z3], rfl⟩
  · by_cases e3 : w = 3
    · subst e3
      refine wa_tableIn 59 dX12_toldOf_1 hw (by decide) (by decide) (off := 58) rfl (by decide) ?_
      refine wa_aload_n dX12_toldOf_59 rfl ?_
      refine wt_getI dX12_toldOf_60 FX12_192 (by assumption) ?_
      refine wa_ireturn dX12_toldOf_63 rfl ?_
      exact ⟨by rw [h7]; rfl, rfl⟩
    · by_cases e4 : w = 4
      · subst e4
        refine wa_tableIn 64 dX12_toldOf_1 hw (by decide) (by decide) (off := 63) rfl (by decide) ?_
        refine wa_aload_n dX12_toldOf_64 rfl ?_
        refine wt_getR dX12_toldOf_65 FX12_7 (by assumption) (by assumption) ?_
        refine wa_iconst dX12_toldOf_68 ?_
        refine wt_iald 0 dX12_toldOf_69 (by assumption) rfl (by omega) ?_
        refine wa_ireturn dX12_toldOf_70 rfl ?_
        exact ⟨by rw [h1.1.1]; rfl, rfl⟩
      · by_cases e5 : w = 5
        · subst e5
          refine wa_tableIn 71 dX12_toldOf_1 hw (by decide) (by decide) (off := 70) rfl (by decide) ?_
          refine wa_aload_n dX12_toldOf_71 rfl ?_
          refine wt_getR dX12_toldOf_72 FX12_7 (by assumption) (by assumption) ?_
          refine wa_iconst dX12_toldOf_75 ?_
          refine wt_iald 1 dX12_toldOf_76 (by assumption) rfl (by omega) ?_
          refine wa_ireturn dX12_toldOf_77 rfl ?_
          exact ⟨by rw [h1.2.1]; rfl, rfl⟩
        · by_cases e6 : w = 6
          · subst e6
            refine wa_tableIn 83 dX12_toldOf_1 hw (by decide) (by decide) (off := 82) rfl (by decide) ?_
            refine wa_aload_n dX12_toldOf_83 rfl ?_
            refine wt_getR dX12_toldOf_84 FX12_19 o168 r168_4 ?_
            refine wa_iload_n dX12_toldOf_87 rfl ?_
            refine wa_bipush dX12_toldOf_88 rfl ?_
            refine wa_isub dX12_toldOf_90 ?_
            refine wt_iald 0 dX12_toldOf_91 o172 rfl (by omega) ?_
            refine wa_ireturn dX12_toldOf_92 rfl ?_
            exact ⟨by rw [h4.1]; rfl, rfl⟩
          · by_cases e7 : w = 7
            · subst e7
              refine wa_tableIn 83 dX12_toldOf_1 hw (by decide) (by decide) (off := 82) rfl (by decide) ?_
              refine wa_aload_n dX12_toldOf_83 rfl ?_
              refine wt_getR dX12_toldOf_84 FX12_19 o168 r168_4 ?_
              refine wa_iload_n dX12_toldOf_87 rfl ?_
              refine wa_bipush dX12_toldOf_88 rfl ?_
              refine wa_isub dX12_toldOf_90 ?_
              refine wt_iald 1 dX12_toldOf_91 o172 rfl (by omega) ?_
              refine wa_ireturn dX12_toldOf_92 rfl ?_
              exact ⟨by rw [h4.2]; rfl, rfl⟩
            · obtain rfl : w = 8 := by omega
              refine wa_tableIn 78 dX12_toldOf_1 hw (by decide) (by decide) (off := 77) rfl (by decide) ?_
              refine wa_aload_n dX12_toldOf_78 rfl ?_
              refine wt_getI dX12_toldOf_79 FX12_83 (by assumption) ?_
              refine wa_ireturn dX12_toldOf_82 rfl ?_
              exact ⟨by rw [h2]; rfl, rfl⟩
set_option maxRecDepth 20000 in
theorem spTold_b {m : Nat} {A : AS} (ha : AOK m A) (hm : m ≤ 1000) {w : Nat} (hw : w ≤ 8) : 0 ≤ (spTold A w).1 ∧ (spTold A w).1 ≤ 1000 := by
  obtain ⟨a1, a2, a3, a4, a5, a6, a7, a8⟩ := ha
  have h50 := a1.1.1.1
  have h6 := a1.2.1
  unfold spTold
  rw [if_pos ⟨by omega, by omega⟩]
  simp only
  split
  · have := a6 w (by omega); simp only [Int.toNat_natCast]; omega
  · split
    · omega
    · split
      · omega
      · split
        · omega
        · split
          · omega
          · split <;> omega
set_option maxRecDepth 20000 in
theorem c_mtold {m : Nat} {A : AS} (hL : LX S) (ha : AOK m A) (hm : m ≤ 1000) (h : MR I A) (w : Int) (hw : inR w) : tmC yX12_told kX12_told 2 0 0 [tR 168, tI w] (S, I, L) (MPost S I L (tI (spTold A w).1) (spTold A w).2) := by
  refine tmC.mk (lv := [some (tR 168), some (tI w)]) 0 ⟨rfl, by decide +kernel, by decide⟩ rfl rfl ?_
  have o168 := oX168 hL
  have r168_0 := rX168_0 hL
  have r168_1 := rX168_1 hL
  have r168_3 := rX168_3 hL
  have r168_4 := rX168_4 hL
  have r168_5 := rX168_5 hL
  have r168_6 := rX168_6 hL
  have r168_7 := rX168_7 hL
  have r168_8 := rX168_8 hL
  have r168_11 := rX168_11 hL
  have r168_13 := rX168_13 hL
  have r168_17 := rX168_17 hL
  have r168_18 := rX168_18 hL
  have r168_19 := rX168_19 hL
  have r168_21 := rX168_21 hL
  have r168_22 := rX168_22 hL
  have r168_23 := rX168_23 hL
  have r168_24 := rX168_24 hL
  have r168_25 := rX168_25 hL
  have r168_26 := rX168_26 hL
  have r168_27 := rX168_27 hL
  have r168_28 := rX168_28 hL
  have r168_29 := rX168_29 hL
  have r168_30 := rX168_30 hL
  have hrf := c_mrf0 (L := L) hL ha hm h
  have k2 := c_min (h := (S, I, L)) w 0 8 hw ⟨by decide, by decide⟩ ⟨by decide, by decide⟩
  by_cases c : 0 ≤ w ∧ w ≤ 8
  · rw [if_pos c] at k2
    obtain ⟨ww, rfl⟩ : ∃ ww : Nat, w = (ww : Int) := ⟨w.toNat, by omega⟩
    have k3 := c_mtoldOf (I := I) (L := L) hL ha h ww (by omega)
    rw [spTold_st c]
    refine wa_iload_n dX12_told_0 rfl ?_
    refine wa_iconst dX12_told_1 ?_
    refine wa_bipush dX12_told_2 rfl ?_
    refine wa_callSf dX12_told_4 KX12_in LX12_79 (k2) (by decide) rfl rfl (Nat.le_of_ble_eq_true rfl) rfl rfl ?_
    refine wa_if_eq 18 dX12_told_7 (by decide) (by exact ⟨by omega, by omega⟩) (fun c_7 => ?_) (fun c_7 => ?_)
    · omega
    · refine wa_aload_n dX12_told_10 rfl ?_
      refine wa_iload_n dX12_told_11 rfl ?_
      refine wa_callVf (ci := 12) dX12_told_12 KX12_toldOf LX12_236 ⟨_, _, rfl, by decide⟩ o168 (k3) (by decide) rfl rfl (Nat.le_of_ble_eq_true rfl) rfl rfl ?_
      refine wa_goto 24 dX12_told_15 (by decide) ?_
      refine wa_ireturn dX12_told_24 rfl ?_
      exact h.stay rfl rfl
  · rw [if_neg c] at k2
    have e : spTold A w = (-2, aRf A 0) := by unfold spTold; rw [if_neg c]
    rw [e]
    refine wa_iload_n dX12_told_0 rfl ?_
    refine wa_iconst dX12_told_1 ?_
    refine wa_bipush dX12_told_2 rfl ?_
    refine wa_callSf dX12_told_4 KX12_in LX12_79 (k2) (by decide) rfl rfl (Nat.le_of_ble_eq_true rfl) rfl rfl ?_
    refine wa_if_eq 18 dX12_told_7 (by decide) (by exact ⟨by omega, by omega⟩) (fun c_7 => ?_) (fun c_7 => ?_)
    · refine wa_aload_n dX12_told_18 rfl ?_
      refine wa_bipush dX12_told_19 rfl ?_
      refine wa_callV (ci := 12) dX12_told_21 KX12_refuses LX12_113 ⟨_, _, rfl, by decide⟩ o168 (hrf) (by decide) rfl (Nat.le_of_ble_eq_true rfl) rfl rfl (fun r h' hq => ?_)
      obtain ⟨rfl, hq⟩ := hq
      refine wa_ireturn dX12_told_24 rfl ?_
      exact ⟨rfl, hq⟩
    · omega
set_option maxRecDepth 20000 in
theorem c_mlast {m : Nat} {A : AS} (hL : LX S) (ha : AOK m A) (hm : m ≤ 1000) (h : MR I A) (w : Int) (hw : inR w) : tmC yX12_last kX12_last 2 0 0 [tR 168, tI w] (S, I, L) (MPost S I L (tI (spLast A w).1) (spLast A w).2) := by
  refine tmC.mk (lv := [some (tR 168), some (tI w)]) 0 ⟨rfl, by decide +kernel, by decide⟩ rfl rfl ?_
  have o168 := oX168 hL
  have r168_0 := rX168_0 hL
  have r168_1 := rX168_1 hL
  have r168_3 := rX168_3 hL
  have r168_4 := rX168_4 hL
  have r168_5 := rX168_5 hL
  have r168_6 := rX168_6 hL
  have r168_7 := rX168_7 hL
  have r168_8 := rX168_8 hL
  have r168_11 := rX168_11 hL
  have r168_13 := rX168_13 hL
  have r168_17 := rX168_17 hL
  have r168_18 := rX168_18 hL
  have r168_19 := rX168_19 hL
  have r168_21 := rX168_21 hL
  have r168_22 := rX168_22 hL
  have r168_23 := rX168_23 hL
  have r168_24 := rX168_24 hL
  have r168_25 := rX168_25 hL
  have r168_26 := rX168_26 hL
  have r168_27 := rX168_27 hL
  have r168_28 := rX168_28 hL
  have r168_29 := rX168_29 hL
  have r168_30 := rX168_30 hL
  have o173 := oX173 hL
  have hrf := c_mrf0 (L := L) hL ha hm h
  have k2 := c_min (h := (S, I, L)) w 0 4 hw ⟨by decide, by decide⟩ ⟨by decide, by decide⟩
  by_cases c : 0 ≤ w ∧ w ≤ 4
  · rw [if_pos c] at k2
    obtain ⟨ww, rfl⟩ : ∃ ww : Nat, w = (ww : Int) := ⟨w.toNat, by omega⟩
    have e : spLast A ww = (A.2.2.2.2.1 ww, A) := by unfold spLast; rw [if_pos c]; rfl
    rw [e]
    have hv := h.2.2.2.2.2.1 ww (by omega)
    refine wa_iload_n dX12_last_0 rfl ?_
    refine wa_iconst dX12_last_1 ?_
    refine wa_iconst dX12_last_2 ?_
    refine wa_callSf dX12_last_3 KX12_in LX12_79 (k2) (by decide) rfl rfl (Nat.le_of_ble_eq_true rfl) rfl rfl ?_
    refine wa_if_eq 18 dX12_last_6 (by decide) (by exact ⟨by omega, by omega⟩) (fun c_6 => ?_) (fun c_6 => ?_)
    · omega
    · refine wa_aload_n dX12_last_9 rfl ?_
      refine wt_getR dX12_last_10 FX12_22 (by assumption) (by assumption) ?_
      refine wa_iload_n dX12_last_13 rfl ?_
      refine wt_iald ww dX12_last_14 (by assumption) rfl (by omega) ?_
      refine wa_goto 24 dX12_last_15 (by decide) ?_
      refine wa_ireturn dX12_last_24 rfl ?_
      exact h.stay hv rfl
  · rw [if_neg c] at k2
    have e : spLast A w = (-2, aRf A 0) := by unfold spLast; rw [if_neg c]
    rw [e]
    refine wa_iload_n dX12_last_0 rfl ?_
    refine wa_iconst dX12_last_1 ?_
    refine wa_iconst dX12_last_2 ?_
    refine wa_callSf dX12_last_3 KX12_in LX12_79 (k2) (by decide) rfl rfl (Nat.le_of_ble_eq_true rfl) rfl rfl ?_
    refine wa_if_eq 18 dX12_last_6 (by decide) (by exact ⟨by omega, by omega⟩) (fun c_6 => ?_) (fun c_6 => ?_)
    · refine wa_aload_n dX12_last_18 rfl ?_
      refine wa_bipush dX12_last_19 rfl ?_
      refine wa_callV (ci := 12) dX12_last_21 KX12_refuses LX12_113 ⟨_, _, rfl, by decide⟩ o168 (hrf) (by decide) rfl (Nat.le_of_ble_eq_true rfl) rfl rfl (fun r h' hq => ?_)
      obtain ⟨rfl, hq⟩ := hq
      refine wa_ireturn dX12_last_24 rfl ?_
      exact ⟨rfl, hq⟩
    · omega
end S99
