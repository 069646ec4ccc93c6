/-! ===== 99b: the reference: sets, type, clear, back ===== -/
section S99b
variable {S : tmS} {I : Nat → Nat → Int} {L : Nat → Nat → Int64}
set_option maxRecDepth 20000 in
theorem c_msets {m : Nat} {A : AS} (hL : LX S) (ha : AOK m A) (hm : m ≤ 1000) (h : MR I A) (w v : Int) (hw : inR w) (hv : inR v) : tmC yX12_sets kX12_sets 2 0 0 [tR 168, tI w, tI v] (S, I, L) (MPost S I L (tI (spSets A w v).1) (spSets A w v).2) := by
  refine tmC.mk (lv := [some (tR 168), some (tI w), some (tI v), none]) 1 ⟨rfl, by decide +kernel, by decide⟩ rfl rfl ?_
  have o168 := oX168 hL
  have r168_0 := rX168_0 hL
  have r168_1 := rX168_1 hL
  have r168_3 := rX168_3 hL
  have r168_4 := rX168_4 hL
  have r168_5 := rX168_5 hL
  have r168_6 := rX168_6 hL
  have r168_7 := rX168_7 hL
  have r168_8 := rX168_8 hL
  have r168_11 := rX168_11 hL
  have r168_13 := rX168_13 hL
  have r168_17 := rX168_17 hL
  have r168_18 := rX168_18 hL
  have r168_19 := rX168_19 hL
  have r168_21 := rX168_21 hL
  have r168_22 := rX168_22 hL
  have r168_23 := rX168_23 hL
  have r168_24 := rX168_24 hL
  have r168_25 := rX168_25 hL
  have r168_26 := rX168_26 hL
  have r168_27 := rX168_27 hL
  have r168_28 := rX168_28 hL
  have r168_29 := rX168_29 hL
  have r168_30 := rX168_30 hL
  have o172 := oX172 hL
  have hrf := c_mrf0 (L := L) hL ha hm h
  have k1 := c_min (h := (S, I, L)) w 0 1 hw ⟨by decide, by decide⟩ ⟨by decide, by decide⟩
  have k3 := c_min (h := (S, I, L)) v 0 3 hv ⟨by decide, by decide⟩ ⟨by decide, by decide⟩
  have k9 := c_min (h := (S, I, L)) v 0 9 hv ⟨by decide, by decide⟩ ⟨by decide, by decide⟩
  obtain ⟨h1, h2, h3, h4, h5, h6, h7, h8⟩ := id h
  have up : ∀ (j : Nat) (B : Int × Int), (j = 0 ∧ B = (v, A.2.2.1.2) ∨ j = 1 ∧ B = (A.2.2.1.1, v)) → MR (va_up I 172 (va_up (I 172) j v)) (A.1, A.2.1, B, A.2.2.2) := by
    intro j B hj
    refine ⟨by rw [vup_n (by decide)]; exact h1, by rw [vup_n (by decide)]; exact h2, fun i s hs => by rw [vup_n (by decide)]; exact h3 i s hs, ?_, fun i hi => by rw [vup_n (by decide)]; exact h5 i hi, fun i hi => by rw [vup_n (by decide)]; exact h6 i hi, by rw [vup_n (by decide)]; exact h7, fun i hi => by rw [vup_n (by decide)]; exact h8 i hi⟩
    rw [vup_s]
    rcases hj with ⟨rfl, rfl⟩ | ⟨rfl, rfl⟩
    · exact ⟨vup_s, by rw [vup_n (by decide)]; exact h4.2⟩
    · exact ⟨by rw [vup_n (by decide)]; exact h4.1, vup_s⟩
  by_cases c0 : w = 0
  · subst c0
    rw [if_pos (by decide)] at k1
    by_cases c : 0 ≤ v ∧ v ≤ 3
    · rw [if_pos c] at k3
      have e : spSets A 0 v = (A.2.2.1.1, (A.1, A.2.1, (v, A.2.2.1.2), A.2.2.2)) := by unfold spSets; rw [if_pos ⟨rfl, c⟩]
      rw [e]
      refine wa_iload_n dX12_sets_0 rfl ?_
      refine wa_iconst dX12_sets_1 ?_
      refine wa_iconst dX12_sets_2 ?_
      refine wa_callSf dX12_sets_3 KX12_in LX12_79 (k1) (by decide) rfl rfl (Nat.le_of_ble_eq_true rfl) rfl rfl ?_
      refine wa_if_eq 27 dX12_sets_6 (by decide) (by first | exact hv | exact ⟨by omega, by omega⟩) (fun c_6 => ?_) (fun c_6 => ?_)
      · omega
      · refine wa_iload_n dX12_sets_9 rfl ?_
        refine wa_iconst dX12_sets_10 ?_
        refine wa_iload_n dX12_sets_11 rfl ?_
        refine wa_if_ne 19 dX12_sets_12 (by decide) (by first | exact hv | exact ⟨by omega, by omega⟩) (fun c_12 => ?_) (fun c_12 => ?_)
        · omega
        · refine wa_iconst dX12_sets_15 ?_
          refine wa_goto 21 dX12_sets_16 (by decide) ?_
          refine wa_callSf dX12_sets_21 KX12_in LX12_79 (k3) (by decide) rfl rfl (Nat.le_of_ble_eq_true rfl) rfl rfl ?_
          refine wa_if_ne 34 dX12_sets_24 (by decide) (by first | exact hv | exact ⟨by omega, by omega⟩) (fun c_24 => ?_) (fun c_24 => ?_)
          · refine wa_aload_n dX12_sets_34 rfl ?_
            refine wt_getR dX12_sets_35 FX12_19 (by assumption) (by assumption) ?_
            refine wa_iload_n dX12_sets_38 rfl ?_
            refine wt_iald 0 dX12_sets_39 (by assumption) rfl (by omega) ?_
            refine wa_istore_n dX12_sets_40 (by decide) ?_
            refine wa_aload_n dX12_sets_41 rfl ?_
            refine wt_getR dX12_sets_42 FX12_19 (by assumption) (by assumption) ?_
            refine wa_iload_n dX12_sets_45 rfl ?_
            refine wa_iload_n dX12_sets_46 rfl ?_
            refine wt_iast 0 dX12_sets_47 (by assumption) rfl (by omega) (by first | exact hv | exact ⟨by omega, by omega⟩) ?_
            refine wa_iload_n dX12_sets_48 rfl ?_
            refine wa_ireturn dX12_sets_49 rfl ?_
            exact ⟨by rw [h4.1], _, rfl, up 0 _ (Or.inl ⟨rfl, rfl⟩), fun a b => vup_n (by omega)⟩
          · omega
    · rw [if_neg c] at k3
      have e : spSets A 0 v = (-2, aRf A 0) := by unfold spSets; rw [if_neg (fun z => c z.2), if_neg (fun z => by omega)]
      rw [e]
      refine wa_iload_n dX12_sets_0 rfl ?_
      refine wa_iconst dX12_sets_1 ?_
      refine wa_iconst dX12_sets_2 ?_
      refine wa_callSf dX12_sets_3 KX12_in LX12_79 (k1) (by decide) rfl rfl (Nat.le_of_ble_eq_true rfl) rfl rfl ?_
      refine wa_if_eq 27 dX12_sets_6 (by decide) (by first | exact hv | exact ⟨by omega, by omega⟩) (fun c_6 => ?_) (fun c_6 => ?_)
      · omega
      · refine wa_iload_n dX12_sets_9 rfl ?_
        refine wa_iconst dX12_sets_10 ?_
        refine wa_iload_n dX12_sets_11 rfl ?_
        refine wa_if_ne 19 dX12_sets_12 (by decide) (by first | exact hv | exact ⟨by omega, by omega⟩) (fun c_12 => ?_) (fun c_12 => ?_)
        · omega
        · refine wa_iconst dX12_sets_15 ?_
          refine wa_goto 21 dX12_sets_16 (by decide) ?_
          refine wa_callSf dX12_sets_21 KX12_in LX12_79 (k3) (by decide) rfl rfl (Nat.le_of_ble_eq_true rfl) rfl rfl ?_
          refine wa_if_ne 34 dX12_sets_24 (by decide) (by first | exact hv | exact ⟨by omega, by omega⟩) (fun c_24 => ?_) (fun c_24 => ?_)
          · omega
          · refine wa_aload_n dX12_sets_27 rfl ?_
            refine wa_bipush dX12_sets_28 rfl ?_
            refine wa_callV (ci := 12) dX12_sets_30 KX12_refuses LX12_113 ⟨_, _, rfl, by decide⟩ o168 (hrf) (by decide) rfl (Nat.le_of_ble_eq_true rfl) rfl rfl (fun r h' hq => ?_)
            obtain ⟨rfl, hq⟩ := hq
            refine wa_ireturn dX12_sets_33 rfl ?_
            exact ⟨rfl, hq⟩
  · by_cases c1 : w = 1
    · subst c1
      rw [if_pos (by decide)] at k1
      by_cases c : 0 ≤ v ∧ v ≤ 9
      · rw [if_pos c] at k9
        have e : spSets A 1 v = (A.2.2.1.2, (A.1, A.2.1, (A.2.2.1.1, v), A.2.2.2)) := by unfold spSets; rw [if_neg (fun z => by omega), if_pos ⟨rfl, c⟩]
        rw [e]
        refine wa_iload_n dX12_sets_0 rfl ?_
        refine wa_iconst dX12_sets_1 ?_
        refine wa_iconst dX12_sets_2 ?_
        refine wa_callSf dX12_sets_3 KX12_in LX12_79 (k1) (by decide) rfl rfl (Nat.le_of_ble_eq_true rfl) rfl rfl ?_
        refine wa_if_eq 27 dX12_sets_6 (by decide) (by first | exact hv | exact ⟨by omega, by omega⟩) (fun c_6 => ?_) (fun c_6 => ?_)
        · omega
        · refine wa_iload_n dX12_sets_9 rfl ?_
          refine wa_iconst dX12_sets_10 ?_
          refine wa_iload_n dX12_sets_11 rfl ?_
          refine wa_if_ne 19 dX12_sets_12 (by decide) (by first | exact hv | exact ⟨by omega, by omega⟩) (fun c_12 => ?_) (fun c_12 => ?_)
          · refine wa_bipush dX12_sets_19 rfl ?_
            refine wa_callSf dX12_sets_21 KX12_in LX12_79 (k9) (by decide) rfl rfl (Nat.le_of_ble_eq_true rfl) rfl rfl ?_
            refine wa_if_ne 34 dX12_sets_24 (by decide) (by first | exact hv | exact ⟨by omega, by omega⟩) (fun c_24 => ?_) (fun c_24 => ?_)
            · refine wa_aload_n dX12_sets_34 rfl ?_
              refine wt_getR dX12_sets_35 FX12_19 (by assumption) (by assumption) ?_
              refine wa_iload_n dX12_sets_38 rfl ?_
              refine wt_iald 1 dX12_sets_39 (by assumption) rfl (by omega) ?_
              refine wa_istore_n dX12_sets_40 (by decide) ?_
              refine wa_aload_n dX12_sets_41 rfl ?_
              refine wt_getR dX12_sets_42 FX12_19 (by assumption) (by assumption) ?_
              refine wa_iload_n dX12_sets_45 rfl ?_
              refine wa_iload_n dX12_sets_46 rfl ?_
              refine wt_iast 1 dX12_sets_47 (by assumption) rfl (by omega) (by first | exact hv | exact ⟨by omega, by omega⟩) ?_
              refine wa_iload_n dX12_sets_48 rfl ?_
              refine wa_ireturn dX12_sets_49 rfl ?_
              exact ⟨by rw [h4.2], _, rfl, up 1 _ (Or.inr ⟨rfl, rfl⟩), fun a b => vup_n (by omega)⟩
            · omega
          · omega
      · rw [if_neg c] at k9
        have e : spSets A 1 v = (-2, aRf A 0) := by unfold spSets; rw [if_neg (fun z => by omega), if_neg (fun z => c z.2)]
        rw [e]
        refine wa_iload_n dX12_sets_0 rfl ?_
        refine wa_iconst dX12_sets_1 ?_
        refine wa_iconst dX12_sets_2 ?_
        refine wa_callSf dX12_sets_3 KX12_in LX12_79 (k1) (by decide) rfl rfl (Nat.le_of_ble_eq_true rfl) rfl rfl ?_
        refine wa_if_eq 27 dX12_sets_6 (by decide) (by first | exact hv | exact ⟨by omega, by omega⟩) (fun c_6 => ?_) (fun c_6 => ?_)
        · omega
        · refine wa_iload_n dX12_sets_9 rfl ?_
          refine wa_iconst dX12_sets_10 ?_
          refine wa_iload_n dX12_sets_11 rfl ?_
          refine wa_if_ne 19 dX12_sets_12 (by decide) (by first | exact hv | exact ⟨by omega, by omega⟩) (fun c_12 => ?_) (fun c_12 => ?_)
          · refine wa_bipush dX12_sets_19 rfl ?_
            refine wa_callSf dX12_sets_21 KX12_in LX12_79 (k9) (by decide) rfl rfl (Nat.le_of_ble_eq_true rfl) rfl rfl ?_
            refine wa_if_ne 34 dX12_sets_24 (by decide) (by first | exact hv | exact ⟨by omega, by omega⟩) (fun c_24 => ?_) (fun c_24 => ?_)
            · omega
            · refine wa_aload_n dX12_sets_27 rfl ?_
              refine wa_bipush dX12_sets_28 rfl ?_
              refine wa_callV (ci := 12) dX12_sets_30 KX12_refuses LX12_113 ⟨_, _, rfl, by decide⟩ o168 (hrf) (by decide) rfl (Nat.le_of_ble_eq_true rfl) rfl rfl (fun r h' hq => ?_)
              obtain ⟨rfl, hq⟩ := hq
              refine wa_ireturn dX12_sets_33 rfl ?_
              exact ⟨rfl, hq⟩
          · omega
    · rw [if_neg (by omega)] at k1
      have e : spSets A w v = (-2, aRf A 0) := by unfold spSets; rw [if_neg (fun z => c0 z.1), if_neg (fun z => c1 z.1)]
      rw [e]
      refine wa_iload_n dX12_sets_0 rfl ?_
      refine wa_iconst dX12_sets_1 ?_
      refine wa_iconst dX12_sets_2 ?_
      refine wa_callSf dX12_sets_3 KX12_in LX12_79 (k1) (by decide) rfl rfl (Nat.le_of_ble_eq_true rfl) rfl rfl ?_
      refine wa_if_eq 27 dX12_sets_6 (by decide) (by first | exact hv | exact ⟨by omega, by omega⟩) (fun c_6 => ?_) (fun c_6 => ?_)
      · refine wa_aload_n dX12_sets_27 rfl ?_
        refine wa_bipush dX12_sets_28 rfl ?_
        refine wa_callV (ci := 12) dX12_sets_30 KX12_refuses LX12_113 ⟨_, _, rfl, by decide⟩ o168 (hrf) (by decide) rfl (Nat.le_of_ble_eq_true rfl) rfl rfl (fun r h' hq => ?_)
        obtain ⟨rfl, hq⟩ := hq
        refine wa_ireturn dX12_sets_33 rfl ?_
        exact ⟨rfl, hq⟩
      · omega
set_option maxRecDepth 20000 in
theorem c_mtype {m : Nat} {A : AS} (hL : LX S) (ha : AOK m A) (hm : m ≤ 1000) (h : MR I A) (c : Int) (hc : inR c) : tmC yX12_type kX12_type 2 0 0 [tR 168, tI c] (S, I, L) (MPost S I L (tI (spType A c).1) (spType A c).2) := by
  refine tmC.mk (lv := [some (tR 168), some (tI c)]) 0 ⟨rfl, by decide +kernel, by decide⟩ rfl rfl ?_
  have o168 := oX168 hL
  have r168_0 := rX168_0 hL
  have r168_1 := rX168_1 hL
  have r168_3 := rX168_3 hL
  have r168_4 := rX168_4 hL
  have r168_5 := rX168_5 hL
  have r168_6 := rX168_6 hL
  have r168_7 := rX168_7 hL
  have r168_8 := rX168_8 hL
  have r168_11 := rX168_11 hL
  have r168_13 := rX168_13 hL
  have r168_17 := rX168_17 hL
  have r168_18 := rX168_18 hL
  have r168_19 := rX168_19 hL
  have r168_21 := rX168_21 hL
  have r168_22 := rX168_22 hL
  have r168_23 := rX168_23 hL
  have r168_24 := rX168_24 hL
  have r168_25 := rX168_25 hL
  have r168_26 := rX168_26 hL
  have r168_27 := rX168_27 hL
  have r168_28 := rX168_28 hL
  have r168_29 := rX168_29 hL
  have r168_30 := rX168_30 hL
  have o176 := oX176 hL
  have hrf := c_mrf0 (L := L) hL ha hm h
  have hrf2 := c_mrf2 (L := L) hL ha hm h
  have k1 := c_min (h := (S, I, L)) c 0 127 hc ⟨by decide, by decide⟩ ⟨by decide, by decide⟩
  obtain ⟨h1, h2, h3, h4, h5, h6, h7, h8⟩ := id h
  have h120 := ha.2.2.2.2.2.2.1
  by_cases c1 : 0 ≤ c ∧ c ≤ 127
  · rw [if_pos c1] at k1
    by_cases c2 : A.2.2.2.2.2.1 < 120
    · have e : spType A c = (((A.2.2.2.2.2.1 + 1 : Nat) : Int), (A.1, A.2.1, A.2.2.1, A.2.2.2.1, A.2.2.2.2.1, A.2.2.2.2.2.1 + 1, va_up A.2.2.2.2.2.2 A.2.2.2.2.2.1 c)) := by unfold spType; rw [if_pos c1, if_pos c2]
      rw [e]
      generalize hnb : A.2.2.2.2.2.1 = nb at *
      have x168 : va_up I 176 (va_up (I 176) nb c) 168 = I 168 := vup_n (by decide)
      generalize hJ : va_up (va_up I 176 (va_up (I 176) nb c)) 168 (va_up (I 168) 9 ((nb + 1 : Nat) : Int)) = J
      have gJ : ∀ a, a ≠ 168 → a ≠ 176 → J a = I a := fun a b1 b2 => by rw [← hJ, vup_n b1, vup_n b2]
      have j168 : ∀ k, k ≠ 9 → J 168 k = I 168 k := fun k hk => by rw [← hJ, vup_s, vup_n hk]
      have j9 : J 168 9 = ((nb + 1 : Nat) : Int) := by rw [← hJ, vup_s, vup_s]
      have fin : MR J (A.1, A.2.1, A.2.2.1, A.2.2.2.1, A.2.2.2.2.1, nb + 1, va_up A.2.2.2.2.2.2 nb c) := by
        refine ⟨by rw [gJ 169 (by decide) (by decide)]; exact h1, by rw [j168 2 (by decide)]; exact h2, fun i s hs => by rw [gJ 170 (by decide) (by decide)]; exact h3 i s hs, by rw [gJ 172 (by decide) (by decide)]; exact h4, fun i hi => by rw [gJ 175 (by decide) (by decide)]; exact h5 i hi, fun i hi => by rw [gJ 173 (by decide) (by decide)]; exact h6 i hi, j9, fun i hi => ?_⟩
        have hi : i < nb + 1 := hi
        show J 176 i = va_up A.2.2.2.2.2.2 nb c i
        rw [← hJ, vup_n (by decide), vup_s]
        by_cases z : i = nb
        · subst z; rw [vup_s, vup_s]
        · rw [vup_n z, vup_n z]; exact h8 i (by omega)
      refine wa_iload_n dX12_type_0 rfl ?_
      refine wa_iconst dX12_type_1 ?_
      refine wa_bipush dX12_type_2 rfl ?_
      refine wa_callSf dX12_type_4 KX12_in LX12_79 (k1) (by decide) rfl rfl (Nat.le_of_ble_eq_true rfl) rfl rfl ?_
      refine wa_if_ne 17 dX12_type_7 (by decide) (by first | exact hc | exact ⟨by omega, by omega⟩) (fun c_7 => ?_) (fun c_7 => ?_)
      · refine wa_aload_n dX12_type_17 rfl ?_
        refine wt_getI dX12_type_18 FX12_192 (by assumption) ?_
        try first | rw [x168, h7] | rw [h7] | skip
        refine wa_bipush dX12_type_21 rfl ?_
        refine wa_icmp_ne 33 dX12_type_23 (by decide) (by first | exact hc | exact ⟨by omega, by omega⟩) (by first | exact hc | exact ⟨by omega, by omega⟩) (fun c_23 => ?_) (fun c_23 => ?_)
        · refine wa_aload_n dX12_type_33 rfl ?_
          refine wt_getR dX12_type_34 FX12_31 (by assumption) (by assumption) ?_
          refine wa_aload_n dX12_type_37 rfl ?_
          refine wt_getI dX12_type_38 FX12_192 (by assumption) ?_
          try first | rw [x168, h7] | rw [h7] | skip
          refine wa_iload_n dX12_type_41 rfl ?_
          refine wt_iast nb dX12_type_42 (by assumption) rfl (by omega) (by first | exact hc | exact ⟨by omega, by omega⟩) ?_
          refine wa_aload_n dX12_type_43 rfl ?_
          refine wa_dup dX12_type_44 rfl ?_
          refine wt_getI dX12_type_45 FX12_192 (by assumption) ?_
          try first | rw [x168, h7] | rw [h7] | skip
          refine wa_iconst dX12_type_48 ?_
          refine wa_iadd dX12_type_49 ?_
          refine wt_putI dX12_type_50 FX12_192 (WX12_9 _ _) (by assumption) (by first | exact hc | exact ⟨by omega, by omega⟩) ?_
          rw [x168, show ((nb : Int) + 1) = ((nb + 1 : Nat) : Int) by omega, hJ]
          refine wa_aload_n dX12_type_53 rfl ?_
          refine wt_getI dX12_type_54 FX12_192 (by assumption) ?_
          try first | rw [x168, h7] | rw [h7] | skip
          rw [j9]
          refine wa_ireturn dX12_type_57 rfl ?_
          exact ⟨rfl, J, rfl, fin, fun a b => gJ a (by omega) (by omega)⟩
        · omega
      · omega
    · have e : spType A c = (-4, aRf A 2) := by unfold spType; rw [if_pos c1, if_neg c2]
      rw [e]
      refine wa_iload_n dX12_type_0 rfl ?_
      refine wa_iconst dX12_type_1 ?_
      refine wa_bipush dX12_type_2 rfl ?_
      refine wa_callSf dX12_type_4 KX12_in LX12_79 (k1) (by decide) rfl rfl (Nat.le_of_ble_eq_true rfl) rfl rfl ?_
      refine wa_if_ne 17 dX12_type_7 (by decide) (by first | exact hc | exact ⟨by omega, by omega⟩) (fun c_7 => ?_) (fun c_7 => ?_)
      · refine wa_aload_n dX12_type_17 rfl ?_
        refine wt_getI dX12_type_18 FX12_192 (by assumption) ?_
        try first | rw [h7] | skip
        refine wa_bipush dX12_type_21 rfl ?_
        refine wa_icmp_ne 33 dX12_type_23 (by decide) (by first | exact hc | exact ⟨by omega, by omega⟩) (by first | exact hc | exact ⟨by omega, by omega⟩) (fun c_23 => ?_) (fun c_23 => ?_)
        · omega
        · refine wa_aload_n dX12_type_26 rfl ?_
          refine wa_bipush dX12_type_27 rfl ?_
          refine wa_callV (ci := 12) dX12_type_29 KX12_refuses LX12_113 ⟨_, _, rfl, by decide⟩ o168 (hrf2) (by decide) rfl (Nat.le_of_ble_eq_true rfl) rfl rfl (fun r h' hq => ?_)
          obtain ⟨rfl, hq⟩ := hq
          refine wa_ireturn dX12_type_32 rfl ?_
          exact ⟨rfl, hq⟩
      · omega
  · rw [if_neg c1] at k1
    have e : spType A c = (-2, aRf A 0) := by unfold spType; rw [if_neg c1]
    rw [e]
    refine wa_iload_n dX12_type_0 rfl ?_
    refine wa_iconst dX12_type_1 ?_
    refine wa_bipush dX12_type_2 rfl ?_
    refine wa_callSf dX12_type_4 KX12_in LX12_79 (k1) (by decide) rfl rfl (Nat.le_of_ble_eq_true rfl) rfl rfl ?_
    refine wa_if_ne 17 dX12_type_7 (by decide) (by first | exact hc | exact ⟨by omega, by omega⟩) (fun c_7 => ?_) (fun c_7 => ?_)
    · omega
    · refine wa_aload_n dX12_type_10 rfl ?_
      refine wa_bipush dX12_type_11 rfl ?_
      refine wa_callV (ci := 12) dX12_type_13 KX12_refuses LX12_113 ⟨_, _, rfl, by decide⟩ o168 (hrf) (by decide) rfl (Nat.le_of_ble_eq_true rfl) rfl rfl (fun r h' hq => ?_)
      obtain ⟨rfl, hq⟩ := hq
      refine wa_ireturn dX12_type_16 rfl ?_
      exact ⟨rfl, hq⟩
set_option maxRecDepth 20000 in
theorem c_mclear {m : Nat} {A : AS} (hL : LX S) (ha : AOK m A) (h : MR I A) : tmC yX12_clear kX12_clear 1 0 0 [tR 168] (S, I, L) (MPost S I L (tI (spClear A).1) (spClear A).2) := by
  refine tmC.mk (lv := [some (tR 168), none]) 1 ⟨rfl, by decide +kernel, by decide⟩ rfl rfl ?_
  have o168 := oX168 hL
  have r168_0 := rX168_0 hL
  have r168_1 := rX168_1 hL
  have r168_3 := rX168_3 hL
  have r168_4 := rX168_4 hL
  have r168_5 := rX168_5 hL
  have r168_6 := rX168_6 hL
  have r168_7 := rX168_7 hL
  have r168_8 := rX168_8 hL
  have r168_11 := rX168_11 hL
  have r168_13 := rX168_13 hL
  have r168_17 := rX168_17 hL
  have r168_18 := rX168_18 hL
  have r168_19 := rX168_19 hL
  have r168_21 := rX168_21 hL
  have r168_22 := rX168_22 hL
  have r168_23 := rX168_23 hL
  have r168_24 := rX168_24 hL
  have r168_25 := rX168_25 hL
  have r168_26 := rX168_26 hL
  have r168_27 := rX168_27 hL
  have r168_28 := rX168_28 hL
  have r168_29 := rX168_29 hL
  have r168_30 := rX168_30 hL
  obtain ⟨h1, h2, h3, h4, h5, h6, h7, h8⟩ := id h
  have fin : MR (va_up I 168 (va_up (I 168) 9 0)) (spClear A).2 := ⟨by rw [vup_n (by decide)]; exact h1, by rw [vup_s, vup_n (by decide)]; exact h2, fun i s hs => by rw [vup_n (by decide)]; exact h3 i s hs, by rw [vup_n (by decide)]; exact h4, fun i hi => by rw [vup_n (by decide)]; exact h5 i hi, fun i hi => by rw [vup_n (by decide)]; exact h6 i hi, by rw [vup_s, vup_s]; rfl, fun i hi => by have : i < 0 := hi; omega⟩
  refine wa_aload_n dX12_clear_0 rfl ?_
  refine wt_getI dX12_clear_1 FX12_192 (by assumption) ?_
  refine wa_istore_n dX12_clear_4 (by decide) ?_
  refine wa_aload_n dX12_clear_5 rfl ?_
  refine wa_iconst dX12_clear_6 ?_
  refine wt_putI dX12_clear_7 FX12_192 (WX12_9 _ _) (by assumption) (by exact ⟨by omega, by omega⟩) ?_
  refine wa_iload_n dX12_clear_10 rfl ?_
  refine wa_ireturn dX12_clear_11 rfl ?_
  exact ⟨by rw [h7]; rfl, _, rfl, fin, fun a b => vup_n (by omega)⟩
set_option maxRecDepth 20000 in
theorem back_loop (hL : LX S) (hI0 : tmIR I) {z : Nat} (hz : I 168 2 = (z : Int)) (hz8 : z < 8) (Q : Option tmV → tmH → Prop) (kk : tmW kX12_back 2 0 0 60 [some (tR 168), some (tI (984 : Nat))] [] (S, va_up I 169 (fCp (I 169) (fun k => I 170 (984 * z + k)) 0 984), L) Q) : ∀ (j k : Nat), k + j = 984 → tmW kX12_back 2 0 0 26 [some (tR 168), some (tI k)] [] (S, va_up I 169 (fCp (I 169) (fun k => I 170 (984 * z + k)) 0 k), L) Q := by
  intro j
  have o168 := oX168 hL
  have r168_0 := rX168_0 hL
  have r168_1 := rX168_1 hL
  have r168_3 := rX168_3 hL
  have r168_4 := rX168_4 hL
  have r168_5 := rX168_5 hL
  have r168_6 := rX168_6 hL
  have r168_7 := rX168_7 hL
  have r168_8 := rX168_8 hL
  have r168_11 := rX168_11 hL
  have r168_13 := rX168_13 hL
  have r168_17 := rX168_17 hL
  have r168_18 := rX168_18 hL
  have r168_19 := rX168_19 hL
  have r168_21 := rX168_21 hL
  have r168_22 := rX168_22 hL
  have r168_23 := rX168_23 hL
  have r168_24 := rX168_24 hL
  have r168_25 := rX168_25 hL
  have r168_26 := rX168_26 hL
  have r168_27 := rX168_27 hL
  have r168_28 := rX168_28 hL
  have r168_29 := rX168_29 hL
  have r168_30 := rX168_30 hL
  have o169 := oX169 hL
  have o170 := oX170 hL
  have e168 : ∀ f : Nat → Int, va_up I 169 f 168 = I 168 := fun f => vup_n (by decide)
  have e170 : ∀ f : Nat → Int, va_up I 169 f 170 = I 170 := fun f => vup_n (by decide)
  induction j with
  | zero =>
    intro k hk
    obtain rfl : k = 984 := by omega
    refine wa_iload_n dX12_back_26 rfl ?_
    refine wa_sipush dX12_back_27 rfl ?_
    refine wa_icmp_ge 60 dX12_back_30 (by decide) (by exact ⟨by omega, by omega⟩) (by exact ⟨by omega, by omega⟩) (fun c_30 => ?_) (fun c_30 => ?_)
    · exact kk
    · omega
  | succ j ih =>
    intro k hk
    have nx := ih (k + 1) (by omega)
    rw [← fCp_s, Nat.zero_add] at nx
    refine wa_iload_n dX12_back_26 rfl ?_
    refine wa_sipush dX12_back_27 rfl ?_
    refine wa_icmp_ge 60 dX12_back_30 (by decide) (by first | exact hI0 _ _ | exact ⟨by omega, by omega⟩) (by first | exact hI0 _ _ | exact ⟨by omega, by omega⟩) (fun c_30 => ?_) (fun c_30 => ?_)
    · omega
    · refine wa_aload_n dX12_back_33 rfl ?_
      refine wt_getR dX12_back_34 FX12_7 (by assumption) (by assumption) ?_
      refine wa_iload_n dX12_back_37 rfl ?_
      refine wa_aload_n dX12_back_38 rfl ?_
      refine wt_getR dX12_back_39 FX12_13 (by assumption) (by assumption) ?_
      refine wa_sipush dX12_back_42 rfl ?_
      refine wa_aload_n dX12_back_45 rfl ?_
      refine wt_getI dX12_back_46 FX12_83 (by assumption) ?_
      try first | rw [e168, hz] | rw [e170] | skip
      refine wa_imul dX12_back_49 ?_
      refine wa_iload_n dX12_back_50 rfl ?_
      refine wa_iadd dX12_back_51 ?_
      refine wt_iald (984 * z + k) dX12_back_52 (by assumption) (by omega) (by omega) ?_
      try first | rw [e168, hz] | rw [e170] | skip
      refine wt_iast k dX12_back_53 (by assumption) rfl (by omega) (by first | exact hI0 _ _ | exact ⟨by omega, by omega⟩) ?_
      rw [vup_s, vup_vup]
      refine wa_iinc dX12_back_54 rfl (by decide) ?_
      refine wa_goto 26 dX12_back_57 (by decide) ?_
      exact nx
set_option maxRecDepth 20000 in
theorem c_mback {m : Nat} {A : AS} (hL : LX S) (ha : AOK m A) (hm : m ≤ 1000) (h : MR I A) : tmC yX12_back kX12_back 2 0 0 [tR 168] (S, I, L) (MPost S I L (tI (spBack A).1) (spBack A).2) := by
  refine tmC.mk (lv := [some (tR 168), none]) 1 ⟨rfl, by decide +kernel, by decide⟩ rfl rfl ?_
  have o168 := oX168 hL
  have r168_0 := rX168_0 hL
  have r168_1 := rX168_1 hL
  have r168_3 := rX168_3 hL
  have r168_4 := rX168_4 hL
  have r168_5 := rX168_5 hL
  have r168_6 := rX168_6 hL
  have r168_7 := rX168_7 hL
  have r168_8 := rX168_8 hL
  have r168_11 := rX168_11 hL
  have r168_13 := rX168_13 hL
  have r168_17 := rX168_17 hL
  have r168_18 := rX168_18 hL
  have r168_19 := rX168_19 hL
  have r168_21 := rX168_21 hL
  have r168_22 := rX168_22 hL
  have r168_23 := rX168_23 hL
  have r168_24 := rX168_24 hL
  have r168_25 := rX168_25 hL
  have r168_26 := rX168_26 hL
  have r168_27 := rX168_27 hL
  have r168_28 := rX168_28 hL
  have r168_29 := rX168_29 hL
  have r168_30 := rX168_30 hL
  refine wt_ir (fun hI => ?_)
  have hrf := c_mrf1 (L := L) hL ha hm h
  obtain ⟨h1, h2, h3, h4, h5, h6, h7, h8⟩ := id h
  have a3 := ha.2.2.1
  unfold spBack
  by_cases c : A.2.1.length = 0
  · rw [if_pos c]
    refine wa_aload_n dX12_back_0 rfl ?_
    refine wt_getI dX12_back_1 FX12_83 (by assumption) ?_
    try first | rw [h2] | skip
    refine wa_if_ne 14 dX12_back_4 (by decide) (by exact ⟨by omega, by omega⟩) (fun c_4 => ?_) (fun c_4 => ?_)
    · omega
    · refine wa_aload_n dX12_back_7 rfl ?_
      refine wa_bipush dX12_back_8 rfl ?_
      refine wa_callV (ci := 12) dX12_back_10 KX12_refuses LX12_113 ⟨_, _, rfl, by decide⟩ o168 (hrf) (by decide) rfl (Nat.le_of_ble_eq_true rfl) rfl rfl (fun r h' hq => ?_)
      obtain ⟨rfl, hq⟩ := hq
      refine wa_ireturn dX12_back_13 rfl ?_
      exact ⟨rfl, hq⟩
  · rw [if_neg c]
    have hget : A.2.1[A.2.1.length - 1]? = some (A.2.1.getD (A.2.1.length - 1) (emX, [])) := by
      rw [List.getD_eq_getElem?_getD, List.getElem?_eq_getElem (by omega)]; rfl
    have hrow := h3 _ _ hget
    have hv := ha.2.1 _ (List.mem_of_getElem? hget)
    generalize hst : A.2.1.getD (A.2.1.length - 1) (emX, []) = st at *
    generalize hJ : va_up I 168 (va_up (I 168) 2 ((A.2.1.length - 1 : Nat) : Int)) = J
    have gJ : ∀ a, a ≠ 168 → J a = I a := fun a ha => by rw [← hJ]; exact vup_n ha
    have j2 : J 168 2 = ((A.2.1.length - 1 : Nat) : Int) := by rw [← hJ, vup_s, vup_s]
    have j168 : ∀ k, k ≠ 2 → J 168 k = I 168 k := fun k hk => by rw [← hJ, vup_s, vup_n hk]
    have irJ : tmIR J := by rw [← hJ]; exact hI.up ⟨by omega, by omega⟩
    generalize hV : va_up J 169 (fCp (J 169) (fun k => J 170 (984 * (A.2.1.length - 1) + k)) 0 984) = V
    have gV : ∀ a, a ≠ 169 → V a = J a := fun a ha => by rw [← hV]; exact vup_n ha
    have fin : MR V (st, A.2.1.take (A.2.1.length - 1), A.2.2) := by
      refine ⟨?_, ?_, fun i s hs => ?_, by rw [gV 172 (by decide), gJ 172 (by decide)]; exact h4, fun i hi => by rw [gV 175 (by decide), gJ 175 (by decide)]; exact h5 i hi, fun i hi => by rw [gV 173 (by decide), gJ 173 (by decide)]; exact h6 i hi, by rw [gV 168 (by decide), j168 9 (by decide)]; exact h7, fun i hi => by rw [gV 176 (by decide), gJ 176 (by decide)]; exact h8 i hi⟩
      · refine hrow.cg hv (fun k hk => ?_)
        rw [← hV, vup_s]
        unfold fCp
        rw [if_pos (by omega), gJ 170 (by decide)]
        congr 1
      · rw [gV 168 (by decide), j2]
        congr 1
        show A.2.1.length - 1 = (A.2.1.take (A.2.1.length - 1)).length
        rw [List.length_take]; omega
      · have hs : (A.2.1.take (A.2.1.length - 1))[i]? = some s := hs
        have hin : i < A.2.1.length - 1 := by
          by_cases z : i < A.2.1.length - 1
          · exact z
          · rw [List.getElem?_eq_none (by rw [List.length_take]; omega)] at hs; cases hs
        rw [List.getElem?_take_of_lt hin] at hs
        rw [gV 170 (by decide), gJ 170 (by decide)]
        exact h3 i s hs
    have vz : V 168 2 = ((A.2.1.length - 1 : Nat) : Int) := by rw [gV 168 (by decide)]; exact j2
    have tail : tmW kX12_back 2 0 0 60 [some (tR 168), some (tI (984 : Nat))] [] (S, V, L) (MPost S I L (tI ((A.2.1.length : Int) - 1)) (st, A.2.1.take (A.2.1.length - 1), A.2.2)) := by
      refine wa_aload_n dX12_back_60 rfl ?_
      refine wt_getI dX12_back_61 FX12_83 (by assumption) ?_
      try rw [vz]
      refine wa_ireturn dX12_back_64 rfl ?_
      exact ⟨by rw [show ((A.2.1.length - 1 : Nat) : Int) = (A.2.1.length : Int) - 1 by omega], V, rfl, fin, fun a b => by rw [gV a (by omega), gJ a (by omega)]⟩
    have lp := back_loop (I := J) (L := L) hL irJ j2 (by omega) _ (by rw [hV]; exact tail) 984 0 (by omega)
    rw [fCp_0, vup_self] at lp
    show tmW _ _ _ _ _ _ _ _ (MPost S I L (tI ((A.2.1.length : Int) - 1)) (st, A.2.1.take (A.2.1.length - 1), A.2.2))
    generalize MPost S I L (tI ((A.2.1.length : Int) - 1)) (st, A.2.1.take (A.2.1.length - 1), A.2.2) = Q at lp ⊢
    refine wa_aload_n dX12_back_0 rfl ?_
    refine wt_getI dX12_back_1 FX12_83 (by assumption) ?_
    try first | rw [h2] | skip
    refine wa_if_ne 14 dX12_back_4 (by decide) (by exact ⟨by omega, by omega⟩) (fun c_4 => ?_) (fun c_4 => ?_)
    · refine wa_aload_n dX12_back_14 rfl ?_
      refine wa_dup dX12_back_15 rfl ?_
      refine wt_getI dX12_back_16 FX12_83 (by assumption) ?_
      try first | rw [h2] | skip
      refine wa_iconst dX12_back_19 ?_
      refine wa_isub dX12_back_20 ?_
      refine wt_putI dX12_back_21 FX12_83 (WX12_2 _ _) (by assumption) (by exact ⟨by omega, by omega⟩) ?_
      rw [show (A.2.1.length : Int) - 1 = ((A.2.1.length - 1 : Nat) : Int) by omega, hJ]
      refine wa_iconst dX12_back_24 ?_
      refine wa_istore_n dX12_back_25 (by decide) ?_
      exact lp
    · omega
end S99b
