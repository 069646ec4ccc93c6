/-! ===== 81: TriggerMatches: sets, last, type, clear ===== -/
section S81
variable {S : tmS} {I : Nat → Nat → Int} {L : Nat → Nat → Int64}
/-- what changes order, limit, text alone -/
theorem CR.misc {I' : Nat → Nat → Int} {m : Nat} {A B : AS} (h : CR S I L m A) (e : ∀ a, a ≠ 0 → a ≠ 155 → a ≠ 156 → I' a = I a) (h1 : B.1 = A.1) (h2 : B.2.1 = A.2.1) (hm : MiscR I' (m + 1) B.2.2.1.1 B.2.2.1.2 B.2.2.2.1 B.2.2.2.2.1 B.2.2.2.2.2.1 B.2.2.2.2.2.2) : CR S I' L (m + 1) B ∧ MFr S I S I' := by
  obtain ⟨c1, c2, c3, c4, c5⟩ := h
  have pf : PatFr S I S I' := ⟨Nat.le_refl _, fun a a1 _ => ⟨rfl, rfl, rfl, e a (by omega) (by omega) (by omega)⟩⟩
  refine ⟨⟨c1, ?_, ?_, c4, hm⟩, fun a a1 a2 => e a (by omega) (by omega) (by omega)⟩
  · rw [h1]; exact c2.fr pf (fun _ _ => rfl) (fun a ha => e a (by omega) (by omega) (by omega)) rfl
  · rw [h2]; exact c3.fr pf (fun a a1 a2 => e a (by omega) (by omega) (by omega)) (fun _ _ _ => rfl)
set_option maxRecDepth 20000 in
theorem c_sets {m : Nat} {A : AS} (h : CR S I L m A) (hm : m ≤ 1000) (w v : Int) (hw : inR w) (hv : inR v) : tmC yX11_sets kX11_sets 2 0 0 [tR 0, tI w, tI v] (S, I, L) (CPost S I (m + 1) (tI (spSets A w v).1) (spSets A w v).2) := by
  refine tmC.mk (lv := [some (tR 0), some (tI w), some (tI v), none, none]) 2 ⟨rfl, by decide +kernel, by decide⟩ rfl rfl ?_
  have hL := h.1
  have o0 := oX0 hL
  have r0_0 := rX0_0 hL
  have r0_1 := rX0_1 hL
  have r0_2 := rX0_2 hL
  have r0_3 := rX0_3 hL
  have r0_4 := rX0_4 hL
  have r0_5 := rX0_5 hL
  have r0_6 := rX0_6 hL
  have r0_7 := rX0_7 hL
  have r0_8 := rX0_8 hL
  have hrf := c_rf0 h hm
  obtain ⟨k1, k2, k3, k4, k5, k6⟩ := h.2.2.2.2
  have up3 : ∀ j, j < 3 → I 167 j = A.2.2.2.1 j ∧ 0 ≤ A.2.2.2.1 j ∧ A.2.2.2.1 j ≤ ((m + 1 : Nat) : Int) := fun j hj => by have := k3 j hj; omega
  by_cases c0 : w = 0
  · subst c0
    by_cases c : 0 ≤ v ∧ v ≤ 3
    · have e : spSets A 0 v = (A.2.2.1.1, (A.1, A.2.1, (v, A.2.2.1.2), A.2.2.2)) := by unfold spSets; rw [if_pos ⟨rfl, c⟩]
      rw [e]
      have fin := h.misc (I' := va_up I 0 (va_up (I 0) 9 v)) (B := (A.1, A.2.1, (v, A.2.2.1.2), A.2.2.2)) (fun a a1 _ _ => vup_n a1) rfl rfl ⟨⟨by rw [vup_s, vup_s], c⟩, ⟨by rw [vup_s, vup_n (by decide)]; exact k2.1, k2.2⟩, fun j hj => by rw [vup_n (by decide)]; exact up3 j hj, fun j hj => by rw [vup_n (by decide)]; exact k4 j hj, by rw [vup_n (by decide), vup_n (by decide)]; exact k5, by rw [vup_n (by decide)]; exact k6⟩
      refine wa_iload_n dX11_sets_0 rfl ?_
      refine wa_if_ne 8 dX11_sets_1 (by decide) (by first | exact hv | exact ⟨by omega, by omega⟩) (fun c_1 => ?_) (fun c_1 => ?_)
      · omega
      · refine wa_iconst dX11_sets_4 ?_
        refine wa_goto 10 dX11_sets_5 (by decide) ?_
        refine wa_istore_n dX11_sets_10 (by decide) ?_
        refine wa_iload_n dX11_sets_11 rfl ?_
        refine wa_if_lt 29 dX11_sets_12 (by decide) (by first | exact hv | exact ⟨by omega, by omega⟩) (fun c_12 => ?_) (fun c_12 => ?_)
        · omega
        · refine wa_iload_n dX11_sets_15 rfl ?_
          refine wa_iconst dX11_sets_16 ?_
          refine wa_icmp_gt 29 dX11_sets_17 (by decide) (by first | exact hv | exact ⟨by omega, by omega⟩) (by first | exact hv | exact ⟨by omega, by omega⟩) (fun c_17 => ?_) (fun c_17 => ?_)
          · omega
          · refine wa_iload_n dX11_sets_20 rfl ?_
            refine wa_if_lt 29 dX11_sets_21 (by decide) (by first | exact hv | exact ⟨by omega, by omega⟩) (fun c_21 => ?_) (fun c_21 => ?_)
            · omega
            · refine wa_iload_n dX11_sets_24 rfl ?_
              refine wa_iload_n dX11_sets_25 rfl ?_
              refine wa_icmp_le 36 dX11_sets_26 (by decide) (by first | exact hv | exact ⟨by omega, by omega⟩) (by first | exact hv | exact ⟨by omega, by omega⟩) (fun c_26 => ?_) (fun c_26 => ?_)
              · refine wa_iload_n dX11_sets_36 rfl ?_
                refine wa_if_ne 47 dX11_sets_37 (by decide) (by first | exact hv | exact ⟨by omega, by omega⟩) (fun c_37 => ?_) (fun c_37 => ?_)
                · omega
                · refine wa_aload_n dX11_sets_40 rfl ?_
                  refine wt_getI dX11_sets_41 FX11_81 (by assumption) ?_
                  refine wa_goto 51 dX11_sets_44 (by decide) ?_
                  refine wa_istore dX11_sets_51 (by decide) ?_
                  refine wa_iload_n dX11_sets_53 rfl ?_
                  refine wa_if_ne 65 dX11_sets_54 (by decide) (by first | exact hv | exact ⟨by omega, by omega⟩) (fun c_54 => ?_) (fun c_54 => ?_)
                  · omega
                  · refine wa_aload_n dX11_sets_57 rfl ?_
                    refine wa_iload_n dX11_sets_58 rfl ?_
                    refine wt_putI dX11_sets_59 FX11_81 (WX11_9 _ _) (by assumption) (by first | exact hv | exact ⟨by omega, by omega⟩) ?_
                    refine wa_goto 70 dX11_sets_62 (by decide) ?_
                    refine wa_iload dX11_sets_70 rfl ?_
                    refine wa_ireturn dX11_sets_72 rfl ?_
                    exact ⟨by show some (tI (I 0 9)) = some (tI A.2.2.1.1); rw [k1.1], S, _, L, rfl, fin.1, fin.2⟩
              · omega
    · have e : spSets A 0 v = (-2, aRf A 0) := by unfold spSets; rw [if_neg (fun z => c z.2), if_neg (fun z => by omega)]
      rw [e]
      refine wa_iload_n dX11_sets_0 rfl ?_
      refine wa_if_ne 8 dX11_sets_1 (by decide) (by first | exact hv | exact ⟨by omega, by omega⟩) (fun c_1 => ?_) (fun c_1 => ?_)
      · omega
      · refine wa_iconst dX11_sets_4 ?_
        refine wa_goto 10 dX11_sets_5 (by decide) ?_
        refine wa_istore_n dX11_sets_10 (by decide) ?_
        refine wa_iload_n dX11_sets_11 rfl ?_
        refine wa_if_lt 29 dX11_sets_12 (by decide) (by first | exact hv | exact ⟨by omega, by omega⟩) (fun c_12 => ?_) (fun c_12 => ?_)
        · omega
        · refine wa_iload_n dX11_sets_15 rfl ?_
          refine wa_iconst dX11_sets_16 ?_
          refine wa_icmp_gt 29 dX11_sets_17 (by decide) (by first | exact hv | exact ⟨by omega, by omega⟩) (by first | exact hv | exact ⟨by omega, by omega⟩) (fun c_17 => ?_) (fun c_17 => ?_)
          · omega
          · refine wa_iload_n dX11_sets_20 rfl ?_
            refine wa_if_lt 29 dX11_sets_21 (by decide) (by first | exact hv | exact ⟨by omega, by omega⟩) (fun c_21 => ?_) (fun c_21 => ?_)
            · refine wa_aload_n dX11_sets_29 rfl ?_
              refine wa_bipush dX11_sets_30 rfl ?_
              refine wa_callV (ci := 11) dX11_sets_32 KX11_refuse LX11_88 ⟨_, _, rfl, by decide⟩ o0 (hrf) (by decide) rfl (Nat.le_of_ble_eq_true rfl) rfl rfl (fun r h' hq => ?_)
              obtain ⟨rfl, hq⟩ := hq
              refine wa_ireturn dX11_sets_35 rfl ?_
              exact ⟨rfl, hq⟩
            · refine wa_iload_n dX11_sets_24 rfl ?_
              refine wa_iload_n dX11_sets_25 rfl ?_
              refine wa_icmp_le 36 dX11_sets_26 (by decide) (by first | exact hv | exact ⟨by omega, by omega⟩) (by first | exact hv | exact ⟨by omega, by omega⟩) (fun c_26 => ?_) (fun c_26 => ?_)
              · exfalso; omega
              · refine wa_aload_n dX11_sets_29 rfl ?_
                refine wa_bipush dX11_sets_30 rfl ?_
                refine wa_callV (ci := 11) dX11_sets_32 KX11_refuse LX11_88 ⟨_, _, rfl, by decide⟩ o0 (hrf) (by decide) rfl (Nat.le_of_ble_eq_true rfl) rfl rfl (fun r h' hq => ?_)
                obtain ⟨rfl, hq⟩ := hq
                refine wa_ireturn dX11_sets_35 rfl ?_
                exact ⟨rfl, hq⟩
  · by_cases c1 : w = 1
    · subst c1
      by_cases c : 0 ≤ v ∧ v ≤ 9
      · have e : spSets A 1 v = (A.2.2.1.2, (A.1, A.2.1, (A.2.2.1.1, v), A.2.2.2)) := by unfold spSets; rw [if_neg (fun z => by omega), if_pos ⟨rfl, c⟩]
        rw [e]
        have fin := h.misc (I' := va_up I 0 (va_up (I 0) 10 v)) (B := (A.1, A.2.1, (A.2.2.1.1, v), A.2.2.2)) (fun a a1 _ _ => vup_n a1) rfl rfl ⟨⟨by rw [vup_s, vup_n (by decide)]; exact k1.1, k1.2⟩, ⟨by rw [vup_s, vup_s], c⟩, fun j hj => by rw [vup_n (by decide)]; exact up3 j hj, fun j hj => by rw [vup_n (by decide)]; exact k4 j hj, by rw [vup_n (by decide), vup_n (by decide)]; exact k5, by rw [vup_n (by decide)]; exact k6⟩
        refine wa_iload_n dX11_sets_0 rfl ?_
        refine wa_if_ne 8 dX11_sets_1 (by decide) (by first | exact hv | exact ⟨by omega, by omega⟩) (fun c_1 => ?_) (fun c_1 => ?_)
        · refine wa_bipush dX11_sets_8 rfl ?_
          refine wa_istore_n dX11_sets_10 (by decide) ?_
          refine wa_iload_n dX11_sets_11 rfl ?_
          refine wa_if_lt 29 dX11_sets_12 (by decide) (by first | exact hv | exact ⟨by omega, by omega⟩) (fun c_12 => ?_) (fun c_12 => ?_)
          · omega
          · refine wa_iload_n dX11_sets_15 rfl ?_
            refine wa_iconst dX11_sets_16 ?_
            refine wa_icmp_gt 29 dX11_sets_17 (by decide) (by first | exact hv | exact ⟨by omega, by omega⟩) (by first | exact hv | exact ⟨by omega, by omega⟩) (fun c_17 => ?_) (fun c_17 => ?_)
            · omega
            · refine wa_iload_n dX11_sets_20 rfl ?_
              refine wa_if_lt 29 dX11_sets_21 (by decide) (by first | exact hv | exact ⟨by omega, by omega⟩) (fun c_21 => ?_) (fun c_21 => ?_)
              · omega
              · refine wa_iload_n dX11_sets_24 rfl ?_
                refine wa_iload_n dX11_sets_25 rfl ?_
                refine wa_icmp_le 36 dX11_sets_26 (by decide) (by first | exact hv | exact ⟨by omega, by omega⟩) (by first | exact hv | exact ⟨by omega, by omega⟩) (fun c_26 => ?_) (fun c_26 => ?_)
                · refine wa_iload_n dX11_sets_36 rfl ?_
                  refine wa_if_ne 47 dX11_sets_37 (by decide) (by first | exact hv | exact ⟨by omega, by omega⟩) (fun c_37 => ?_) (fun c_37 => ?_)
                  · refine wa_aload_n dX11_sets_47 rfl ?_
                    refine wt_getI dX11_sets_48 FX11_85 (by assumption) ?_
                    refine wa_istore dX11_sets_51 (by decide) ?_
                    refine wa_iload_n dX11_sets_53 rfl ?_
                    refine wa_if_ne 65 dX11_sets_54 (by decide) (by first | exact hv | exact ⟨by omega, by omega⟩) (fun c_54 => ?_) (fun c_54 => ?_)
                    · refine wa_aload_n dX11_sets_65 rfl ?_
                      refine wa_iload_n dX11_sets_66 rfl ?_
                      refine wt_putI dX11_sets_67 FX11_85 (WX11_10 _ _) (by assumption) (by first | exact hv | exact ⟨by omega, by omega⟩) ?_
                      refine wa_iload dX11_sets_70 rfl ?_
                      refine wa_ireturn dX11_sets_72 rfl ?_
                      exact ⟨by show some (tI (I 0 10)) = some (tI A.2.2.1.2); rw [k2.1], S, _, L, rfl, fin.1, fin.2⟩
                    · omega
                  · omega
                · omega
        · omega
      · have e : spSets A 1 v = (-2, aRf A 0) := by unfold spSets; rw [if_neg (fun z => by omega), if_neg (fun z => c z.2)]
        rw [e]
        refine wa_iload_n dX11_sets_0 rfl ?_
        refine wa_if_ne 8 dX11_sets_1 (by decide) (by first | exact hv | exact ⟨by omega, by omega⟩) (fun c_1 => ?_) (fun c_1 => ?_)
        · refine wa_bipush dX11_sets_8 rfl ?_
          refine wa_istore_n dX11_sets_10 (by decide) ?_
          refine wa_iload_n dX11_sets_11 rfl ?_
          refine wa_if_lt 29 dX11_sets_12 (by decide) (by first | exact hv | exact ⟨by omega, by omega⟩) (fun c_12 => ?_) (fun c_12 => ?_)
          · omega
          · refine wa_iload_n dX11_sets_15 rfl ?_
            refine wa_iconst dX11_sets_16 ?_
            refine wa_icmp_gt 29 dX11_sets_17 (by decide) (by first | exact hv | exact ⟨by omega, by omega⟩) (by first | exact hv | exact ⟨by omega, by omega⟩) (fun c_17 => ?_) (fun c_17 => ?_)
            · omega
            · refine wa_iload_n dX11_sets_20 rfl ?_
              refine wa_if_lt 29 dX11_sets_21 (by decide) (by first | exact hv | exact ⟨by omega, by omega⟩) (fun c_21 => ?_) (fun c_21 => ?_)
              · refine wa_aload_n dX11_sets_29 rfl ?_
                refine wa_bipush dX11_sets_30 rfl ?_
                refine wa_callV (ci := 11) dX11_sets_32 KX11_refuse LX11_88 ⟨_, _, rfl, by decide⟩ o0 (hrf) (by decide) rfl (Nat.le_of_ble_eq_true rfl) rfl rfl (fun r h' hq => ?_)
                obtain ⟨rfl, hq⟩ := hq
                refine wa_ireturn dX11_sets_35 rfl ?_
                exact ⟨rfl, hq⟩
              · refine wa_iload_n dX11_sets_24 rfl ?_
                refine wa_iload_n dX11_sets_25 rfl ?_
                refine wa_icmp_le 36 dX11_sets_26 (by decide) (by first | exact hv | exact ⟨by omega, by omega⟩) (by first | exact hv | exact ⟨by omega, by omega⟩) (fun c_26 => ?_) (fun c_26 => ?_)
                · exfalso; omega
                · refine wa_aload_n dX11_sets_29 rfl ?_
                  refine wa_bipush dX11_sets_30 rfl ?_
                  refine wa_callV (ci := 11) dX11_sets_32 KX11_refuse LX11_88 ⟨_, _, rfl, by decide⟩ o0 (hrf) (by decide) rfl (Nat.le_of_ble_eq_true rfl) rfl rfl (fun r h' hq => ?_)
                  obtain ⟨rfl, hq⟩ := hq
                  refine wa_ireturn dX11_sets_35 rfl ?_
                  exact ⟨rfl, hq⟩
        · omega
    · have e : spSets A w v = (-2, aRf A 0) := by unfold spSets; rw [if_neg (fun z => c0 z.1), if_neg (fun z => c1 z.1)]
      rw [e]
      refine wa_iload_n dX11_sets_0 rfl ?_
      refine wa_if_ne 8 dX11_sets_1 (by decide) (by first | exact hw | exact hv | exact ⟨by omega, by omega⟩) (fun c_1 => ?_) (fun c_1 => ?_)
      · refine wa_bipush dX11_sets_8 rfl ?_
        refine wa_istore_n dX11_sets_10 (by decide) ?_
        refine wa_iload_n dX11_sets_11 rfl ?_
        refine wa_if_lt 29 dX11_sets_12 (by decide) (by first | exact hw | exact hv | exact ⟨by omega, by omega⟩) (fun c_12 => ?_) (fun c_12 => ?_)
        · refine wa_aload_n dX11_sets_29 rfl ?_
          refine wa_bipush dX11_sets_30 rfl ?_
          refine wa_callV (ci := 11) dX11_sets_32 KX11_refuse LX11_88 ⟨_, _, rfl, by decide⟩ o0 (hrf) (by decide) rfl (Nat.le_of_ble_eq_true rfl) rfl rfl (fun r h' hq => ?_)
          obtain ⟨rfl, hq⟩ := hq
          refine wa_ireturn dX11_sets_35 rfl ?_
          exact ⟨rfl, hq⟩
        · refine wa_iload_n dX11_sets_15 rfl ?_
          refine wa_iconst dX11_sets_16 ?_
          refine wa_icmp_gt 29 dX11_sets_17 (by decide) (by first | exact hw | exact hv | exact ⟨by omega, by omega⟩) (by first | exact hw | exact hv | exact ⟨by omega, by omega⟩) (fun c_17 => ?_) (fun c_17 => ?_)
          · refine wa_aload_n dX11_sets_29 rfl ?_
            refine wa_bipush dX11_sets_30 rfl ?_
            refine wa_callV (ci := 11) dX11_sets_32 KX11_refuse LX11_88 ⟨_, _, rfl, by decide⟩ o0 (hrf) (by decide) rfl (Nat.le_of_ble_eq_true rfl) rfl rfl (fun r h' hq => ?_)
            obtain ⟨rfl, hq⟩ := hq
            refine wa_ireturn dX11_sets_35 rfl ?_
            exact ⟨rfl, hq⟩
          · exfalso; omega
      · omega
end S81
