/-! ===== 81b: TriggerMatches: last, type, clear ===== -/
section S81b
variable {S : tmS} {I : Nat → Nat → Int} {L : Nat → Nat → Int64}
theorem c_last {m : Nat} {A : AS} (h : CR S I L m A) (hm : m ≤ 1000) (w : Int) (hw : inR w) : tmC yX11_last kX11_last 2 0 0 [tR 0, tI w] (S, I, L) (CPost S I (m + 1) (tI (spLast A w).1) (spLast A w).2) := by
  refine tmC.mk (lv := [some (tR 0), some (tI w)]) 0 ⟨rfl, by decide +kernel, by decide⟩ rfl rfl ?_
  have hL := h.1
  have o0 := oX0 hL
  have r0_0 := rX0_0 hL
  have r0_1 := rX0_1 hL
  have r0_2 := rX0_2 hL
  have r0_3 := rX0_3 hL
  have r0_4 := rX0_4 hL
  have r0_5 := rX0_5 hL
  have r0_6 := rX0_6 hL
  have r0_7 := rX0_7 hL
  have r0_8 := rX0_8 hL
  have o149 := oX149 hL
  have r149_0 := rX149_0 hL
  have r149_1 := rX149_1 hL
  have r149_2 := rX149_2 hL
  have r149_3 := rX149_3 hL
  have r149_4 := rX149_4 hL
  have r149_5 := rX149_5 hL
  have r149_6 := rX149_6 hL
  have r149_7 := rX149_7 hL
  have o154 := oX154 hL
  have hrf := c_rf0 h hm
  have k4 := h.2.2.2.2.2.2.2.1
  by_cases c : 0 ≤ w ∧ w ≤ 4
  · have e : spLast A w = (A.2.2.2.2.1 w.toNat, A) := by unfold spLast; rw [if_pos c]
    rw [e]
    refine wa_iload_n dX11_last_0 rfl ?_
    refine wa_if_lt 9 dX11_last_1 (by decide) (by first | exact hw | exact ⟨by omega, by omega⟩) (fun c_1 => ?_) (fun c_1 => ?_)
    · omega
    · refine wa_iload_n dX11_last_4 rfl ?_
      refine wa_iconst dX11_last_5 ?_
      refine wa_icmp_lt 16 dX11_last_6 (by decide) (by first | exact hw | exact ⟨by omega, by omega⟩) (by first | exact hw | exact ⟨by omega, by omega⟩) (fun c_6 => ?_) (fun c_6 => ?_)
      · refine wa_aload_n dX11_last_16 rfl ?_
        refine wt_getR dX11_last_17 FX11_57 (by assumption) (by assumption) ?_
        refine wt_getR dX11_last_20 FX11_209 (by assumption) (by assumption) ?_
        refine wa_iload_n dX11_last_23 rfl ?_
        refine wt_iald w.toNat dX11_last_24 (by assumption) (by omega) (by omega) ?_
        refine wa_ireturn dX11_last_25 rfl ?_
        exact h.stay (k4 w.toNat (by omega)) rfl
      · omega
  · have e : spLast A w = (-2, aRf A 0) := by unfold spLast; rw [if_neg c]
    rw [e]
    refine wa_iload_n dX11_last_0 rfl ?_
    refine wa_if_lt 9 dX11_last_1 (by decide) (by first | exact hw | exact ⟨by omega, by omega⟩) (fun c_1 => ?_) (fun c_1 => ?_)
    · refine wa_aload_n dX11_last_9 rfl ?_
      refine wa_bipush dX11_last_10 rfl ?_
      refine wa_callV (ci := 11) dX11_last_12 KX11_refuse LX11_88 ⟨_, _, rfl, by decide⟩ o0 (hrf) (by decide) rfl (Nat.le_of_ble_eq_true rfl) rfl rfl (fun r h' hq => ?_)
      obtain ⟨rfl, hq⟩ := hq
      refine wa_ireturn dX11_last_15 rfl ?_
      exact ⟨rfl, hq⟩
    · refine wa_iload_n dX11_last_4 rfl ?_
      refine wa_iconst dX11_last_5 ?_
      refine wa_icmp_lt 16 dX11_last_6 (by decide) (by first | exact hw | exact ⟨by omega, by omega⟩) (by first | exact hw | exact ⟨by omega, by omega⟩) (fun c_6 => ?_) (fun c_6 => ?_)
      · exfalso; omega
      · refine wa_aload_n dX11_last_9 rfl ?_
        refine wa_bipush dX11_last_10 rfl ?_
        refine wa_callV (ci := 11) dX11_last_12 KX11_refuse LX11_88 ⟨_, _, rfl, by decide⟩ o0 (hrf) (by decide) rfl (Nat.le_of_ble_eq_true rfl) rfl rfl (fun r h' hq => ?_)
        obtain ⟨rfl, hq⟩ := hq
        refine wa_ireturn dX11_last_15 rfl ?_
        exact ⟨rfl, hq⟩
set_option maxRecDepth 20000 in
theorem c_type {m : Nat} {A : AS} (h : CR S I L m A) (hm : m ≤ 1000) (c : Int) (hc : inR c) : tmC yX11_type kX11_type 2 0 0 [tR 0, tI c] (S, I, L) (CPost S I (m + 1) (tI (spType A c).1) (spType A c).2) := by
  refine tmC.mk (lv := [some (tR 0), some (tI c)]) 0 ⟨rfl, by decide +kernel, by decide⟩ rfl rfl ?_
  have hL := h.1
  have o0 := oX0 hL
  have r0_0 := rX0_0 hL
  have r0_1 := rX0_1 hL
  have r0_2 := rX0_2 hL
  have r0_3 := rX0_3 hL
  have r0_4 := rX0_4 hL
  have r0_5 := rX0_5 hL
  have r0_6 := rX0_6 hL
  have r0_7 := rX0_7 hL
  have r0_8 := rX0_8 hL
  have o155 := oX155 hL
  have r155_0 := rX155_0 hL
  have r155_2 := rX155_2 hL
  have r155_3 := rX155_3 hL
  have r155_4 := rX155_4 hL
  have r155_5 := rX155_5 hL
  have r155_6 := rX155_6 hL
  have o156 := oX156 hL
  have hrf := c_rf0 h hm
  have hrf2 := c_rf2 h hm
  obtain ⟨k1, k2, k3, k4, k5, k6⟩ := h.2.2.2.2
  have up3 : ∀ j, j < 3 → I 167 j = A.2.2.2.1 j ∧ 0 ≤ A.2.2.2.1 j ∧ A.2.2.2.1 j ≤ ((m + 1 : Nat) : Int) := fun j hj => by have := k3 j hj; omega
  have k51 := k5.1
  by_cases c1 : 0 ≤ c ∧ c ≤ 127
  · by_cases c2 : A.2.2.2.2.2.1 < 120
    · have e : spType A c = (((A.2.2.2.2.2.1 + 1 : Nat) : Int), (A.1, A.2.1, A.2.2.1, A.2.2.2.1, A.2.2.2.2.1, A.2.2.2.2.2.1 + 1, va_up A.2.2.2.2.2.2 A.2.2.2.2.2.1 c)) := by unfold spType; rw [if_pos c1, if_pos c2]
      rw [e]
      generalize hnb : A.2.2.2.2.2.1 = nb at *
      have x155 : va_up I 156 (va_up (I 156) nb c) 155 = I 155 := vup_n (by decide)
      have fin := h.misc (I' := va_up (va_up I 156 (va_up (I 156) nb c)) 155 (va_up (I 155) 1 ((nb + 1 : Nat) : Int))) (B := (A.1, A.2.1, A.2.2.1, A.2.2.2.1, A.2.2.2.2.1, nb + 1, va_up A.2.2.2.2.2.2 nb c)) (fun a a1 a2 a3 => by rw [vup_n a2, vup_n a3]) rfl rfl ⟨by rw [vup_n (by decide), vup_n (by decide)]; exact k1, by rw [vup_n (by decide), vup_n (by decide)]; exact k2, fun j hj => by rw [vup_n (by decide), vup_n (by decide)]; exact up3 j hj, fun j hj => by rw [vup_n (by decide), vup_n (by decide)]; exact k4 j hj, ⟨by rw [vup_s, vup_s], by show nb + 1 ≤ 120; omega, fun i hi => ?_⟩, by rw [vup_s, vup_n (by decide)]; exact k6⟩
      · refine wa_iload_n dX11_type_0 rfl ?_
        refine wa_if_lt 10 dX11_type_1 (by decide) (by first | exact hc | exact ⟨by omega, by omega⟩) (fun c_1 => ?_) (fun c_1 => ?_)
        · omega
        · refine wa_iload_n dX11_type_4 rfl ?_
          refine wa_bipush dX11_type_5 rfl ?_
          refine wa_icmp_le 17 dX11_type_7 (by decide) (by first | exact hc | exact ⟨by omega, by omega⟩) (by first | exact hc | exact ⟨by omega, by omega⟩) (fun c_7 => ?_) (fun c_7 => ?_)
          · refine wa_aload_n dX11_type_17 rfl ?_
            refine wt_getR dX11_type_18 FX11_66 (by assumption) (by assumption) ?_
            refine wt_getI dX11_type_21 FX11_215 (by assumption) ?_
            try first | rw [x155, k51] | rw [k51] | skip
            refine wa_bipush dX11_type_24 rfl ?_
            refine wa_icmp_lt 36 dX11_type_26 (by decide) (by first | exact hc | exact ⟨by omega, by omega⟩) (by first | exact hc | exact ⟨by omega, by omega⟩) (fun c_26 => ?_) (fun c_26 => ?_)
            · refine wa_aload_n dX11_type_36 rfl ?_
              refine wt_getR dX11_type_37 FX11_66 (by assumption) (by assumption) ?_
              refine wt_getR dX11_type_40 FX11_218 (by assumption) (by assumption) ?_
              refine wa_aload_n dX11_type_43 rfl ?_
              refine wt_getR dX11_type_44 FX11_66 (by assumption) (by assumption) ?_
              refine wt_getI dX11_type_47 FX11_215 (by assumption) ?_
              try first | rw [x155, k51] | rw [k51] | skip
              refine wa_iload_n dX11_type_50 rfl ?_
              refine wt_iast nb dX11_type_51 (by assumption) rfl (by omega) (by first | exact hc | exact ⟨by omega, by omega⟩) ?_
              refine wa_aload_n dX11_type_52 rfl ?_
              refine wt_getR dX11_type_53 FX11_66 (by assumption) (by assumption) ?_
              refine wa_dup dX11_type_56 rfl ?_
              refine wt_getI dX11_type_57 FX11_215 (by assumption) ?_
              try first | rw [x155, k51] | rw [k51] | skip
              refine wa_iconst dX11_type_60 ?_
              refine wa_iadd dX11_type_61 ?_
              refine wt_putI dX11_type_62 FX11_215 (WX9_1 _ _) (by assumption) (by first | exact hc | exact ⟨by omega, by omega⟩) ?_
              rw [x155, show ((nb : Int) + 1) = ((nb + 1 : Nat) : Int) by omega]
              refine wa_aload_n dX11_type_65 rfl ?_
              refine wt_getR dX11_type_66 FX11_66 (by assumption) (by assumption) ?_
              refine wt_getI dX11_type_69 FX11_215 (by assumption) ?_
              try first | rw [x155, k51] | rw [k51] | skip
              rw [vup_s, vup_s]
              refine wa_ireturn dX11_type_72 rfl ?_
              exact ⟨rfl, S, _, L, rfl, fin.1, fin.2⟩
            · omega
          · omega
      · have hi : i < nb + 1 := hi
        show va_up (va_up I 156 (va_up (I 156) nb c)) 155 (va_up (I 155) 1 ((nb + 1 : Nat) : Int)) 156 i = va_up A.2.2.2.2.2.2 nb c i ∧ 0 ≤ va_up A.2.2.2.2.2.2 nb c i ∧ va_up A.2.2.2.2.2.2 nb c i ≤ 127
        rw [vup_n (by decide), vup_s]
        by_cases z : i = nb
        · subst z; rw [vup_s, vup_s]; exact ⟨rfl, c1⟩
        · rw [vup_n z, vup_n z]; exact k5.2.2 i (by omega)
    · have e : spType A c = (-4, aRf A 2) := by unfold spType; rw [if_pos c1, if_neg c2]
      rw [e]
      refine wa_iload_n dX11_type_0 rfl ?_
      refine wa_if_lt 10 dX11_type_1 (by decide) (by first | exact hc | exact ⟨by omega, by omega⟩) (fun c_1 => ?_) (fun c_1 => ?_)
      · omega
      · refine wa_iload_n dX11_type_4 rfl ?_
        refine wa_bipush dX11_type_5 rfl ?_
        refine wa_icmp_le 17 dX11_type_7 (by decide) (by first | exact hc | exact ⟨by omega, by omega⟩) (by first | exact hc | exact ⟨by omega, by omega⟩) (fun c_7 => ?_) (fun c_7 => ?_)
        · refine wa_aload_n dX11_type_17 rfl ?_
          refine wt_getR dX11_type_18 FX11_66 (by assumption) (by assumption) ?_
          refine wt_getI dX11_type_21 FX11_215 (by assumption) ?_
          try first | rw [k51] | skip
          refine wa_bipush dX11_type_24 rfl ?_
          refine wa_icmp_lt 36 dX11_type_26 (by decide) (by first | exact hc | exact ⟨by omega, by omega⟩) (by first | exact hc | exact ⟨by omega, by omega⟩) (fun c_26 => ?_) (fun c_26 => ?_)
          · omega
          · refine wa_aload_n dX11_type_29 rfl ?_
            refine wa_bipush dX11_type_30 rfl ?_
            refine wa_callV (ci := 11) dX11_type_32 KX11_refuse LX11_88 ⟨_, _, rfl, by decide⟩ o0 (hrf2) (by decide) rfl (Nat.le_of_ble_eq_true rfl) rfl rfl (fun r h' hq => ?_)
            obtain ⟨rfl, hq⟩ := hq
            refine wa_ireturn dX11_type_35 rfl ?_
            exact ⟨rfl, hq⟩
        · omega
  · have e : spType A c = (-2, aRf A 0) := by unfold spType; rw [if_neg c1]
    rw [e]
    refine wa_iload_n dX11_type_0 rfl ?_
    refine wa_if_lt 10 dX11_type_1 (by decide) (by first | exact hc | exact ⟨by omega, by omega⟩) (fun c_1 => ?_) (fun c_1 => ?_)
    · refine wa_aload_n dX11_type_10 rfl ?_
      refine wa_bipush dX11_type_11 rfl ?_
      refine wa_callV (ci := 11) dX11_type_13 KX11_refuse LX11_88 ⟨_, _, rfl, by decide⟩ o0 (hrf) (by decide) rfl (Nat.le_of_ble_eq_true rfl) rfl rfl (fun r h' hq => ?_)
      obtain ⟨rfl, hq⟩ := hq
      refine wa_ireturn dX11_type_16 rfl ?_
      exact ⟨rfl, hq⟩
    · refine wa_iload_n dX11_type_4 rfl ?_
      refine wa_bipush dX11_type_5 rfl ?_
      refine wa_icmp_le 17 dX11_type_7 (by decide) (by first | exact hc | exact ⟨by omega, by omega⟩) (by first | exact hc | exact ⟨by omega, by omega⟩) (fun c_7 => ?_) (fun c_7 => ?_)
      · exfalso; omega
      · refine wa_aload_n dX11_type_10 rfl ?_
        refine wa_bipush dX11_type_11 rfl ?_
        refine wa_callV (ci := 11) dX11_type_13 KX11_refuse LX11_88 ⟨_, _, rfl, by decide⟩ o0 (hrf) (by decide) rfl (Nat.le_of_ble_eq_true rfl) rfl rfl (fun r h' hq => ?_)
        obtain ⟨rfl, hq⟩ := hq
        refine wa_ireturn dX11_type_16 rfl ?_
        exact ⟨rfl, hq⟩
theorem c_clear {m : Nat} {A : AS} (h : CR S I L m A) : tmC yX11_clear kX11_clear 1 0 0 [tR 0] (S, I, L) (CPost S I (m + 1) (tI (spClear A).1) (spClear A).2) := by
  refine tmC.mk (lv := [some (tR 0), none]) 1 ⟨rfl, by decide +kernel, by decide⟩ rfl rfl ?_
  have hL := h.1
  have o0 := oX0 hL
  have r0_0 := rX0_0 hL
  have r0_1 := rX0_1 hL
  have r0_2 := rX0_2 hL
  have r0_3 := rX0_3 hL
  have r0_4 := rX0_4 hL
  have r0_5 := rX0_5 hL
  have r0_6 := rX0_6 hL
  have r0_7 := rX0_7 hL
  have r0_8 := rX0_8 hL
  have o155 := oX155 hL
  have r155_0 := rX155_0 hL
  have r155_2 := rX155_2 hL
  have r155_3 := rX155_3 hL
  have r155_4 := rX155_4 hL
  have r155_5 := rX155_5 hL
  have r155_6 := rX155_6 hL
  obtain ⟨k1, k2, k3, k4, k5, k6⟩ := h.2.2.2.2
  have up3 : ∀ j, j < 3 → I 167 j = A.2.2.2.1 j ∧ 0 ≤ A.2.2.2.1 j ∧ A.2.2.2.1 j ≤ ((m + 1 : Nat) : Int) := fun j hj => by have := k3 j hj; omega
  have fin := h.misc (I' := va_up I 155 (va_up (I 155) 1 0)) (B := (spClear A).2) (fun a a1 a2 a3 => vup_n a2) rfl rfl ⟨by rw [vup_n (by decide)]; exact k1, by rw [vup_n (by decide)]; exact k2, fun j hj => by rw [vup_n (by decide)]; exact up3 j hj, fun j hj => by rw [vup_n (by decide)]; exact k4 j hj, ⟨by rw [vup_s, vup_s]; rfl, by show 0 ≤ 120; omega, fun i hi => by have : i < 0 := hi; omega⟩, by rw [vup_s, vup_n (by decide)]; exact k6⟩
  refine wa_aload_n dX11_clear_0 rfl ?_
  refine wt_getR dX11_clear_1 FX11_66 (by assumption) (by assumption) ?_
  refine wt_getI dX11_clear_4 FX11_215 (by assumption) ?_
  refine wa_istore_n dX11_clear_7 (by decide) ?_
  refine wa_aload_n dX11_clear_8 rfl ?_
  refine wt_getR dX11_clear_9 FX11_66 (by assumption) (by assumption) ?_
  refine wa_iconst dX11_clear_12 ?_
  refine wt_putI dX11_clear_13 FX11_215 (WX9_1 _ _) (by assumption) (by exact ⟨by omega, by omega⟩) ?_
  refine wa_iload_n dX11_clear_16 rfl ?_
  refine wa_ireturn dX11_clear_17 rfl ?_
  exact ⟨by show some (tI (I 155 1)) = _; rw [k5.1]; rfl, S, _, L, rfl, fin.1, fin.2⟩
end S81b
