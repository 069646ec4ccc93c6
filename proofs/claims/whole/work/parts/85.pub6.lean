/-! ===== 85: TriggerMatches: alike, anew, drop, back ===== -/
noncomputable def spAlike (A : AS) (t u : Int) : Int × AS := if isT A t ∧ isT A u then
    ((nCls A.1.1.1 A.1.1.2.2.2.2.2 : Int) - (nCls A.1.1.1 (clX (jnX A.1.1 t.toNat u.toNat)).2.2.2.2.2 : Int), aNow (aKeep A) (clX (jnX A.1.1 t.toNat u.toNat), A.1.2)) else (-2, aRf A 0)
def emX : TS := (0, fun _ => 0, fun _ => 0, fun _ => 0, fun _ => 0, fun _ => 0)
noncomputable def spAnew (A : AS) : Int × AS := ((A.1.1.1 : Int), aNow (aKeep A) (clX emX, []))
def spDrop (A : AS) (r : Int) : Int × AS := if 0 ≤ r ∧ r < A.1.2.length then ((A.1.2.length : Int) - 1, aNow (aKeep A) (A.1.1, A.1.2.eraseIdx r.toNat)) else (-2, aRf A 0)
noncomputable def spBack (A : AS) : Int × AS := if A.2.1.length = 0 then (-3, aRf A 1) else ((A.2.1.length : Int) - 1, (((A.2.1.getD (A.2.1.length - 1) (emX, [])), A.2.1.take (A.2.1.length - 1), A.2.2)))
section S85
variable {S : tmS} {I : Nat → Nat → Int} {L : Nat → Nat → Int64}
/-- alike, behind keep -/
theorem alike_b {m : Nat} {A : AS} (h : CR S I L m A) {t u : Nat} (ht : t < A.1.1.1) (hu : u < A.1.1.1) : tmW kX11_alike 7 0 0 46 [some (tR 0), some (tI t), some (tI u), none] [] (S, I, L) (NPost S I m ((nCls A.1.1.1 A.1.1.2.2.2.2.2 : Int) - (nCls A.1.1.1 (clX (jnX A.1.1 t u)).2.2.2.2.2 : Int)) (aNow A (clX (jnX A.1.1 t u), A.1.2))) := by
  have hL := h.1
  have hT := h.2.1.tinv
  have hn5 := hT.2.1
  have hn := hT.1
  have h1 := h.2.1.1
  have o0 := oX0 hL
  have r0_0 := rX0_0 hL
  have r0_1 := rX0_1 hL
  have r0_2 := rX0_2 hL
  have r0_3 := rX0_3 hL
  have r0_4 := rX0_4 hL
  have r0_5 := rX0_5 hL
  have r0_6 := rX0_6 hL
  have r0_7 := rX0_7 hL
  have r0_8 := rX0_8 hL
  have o1 := oX1 hL
  have r1_0 := rX1_0 hL
  have r1_1 := rX1_1 hL
  have r1_3 := rX1_3 hL
  have o2 := oX2 hL
  have r2_1 := rX2_1 hL
  have r2_2 := rX2_2 hL
  have r2_3 := rX2_3 hL
  have r2_4 := rX2_4 hL
  have r2_5 := rX2_5 hL
  have hc := c_classes (L := L) hL hn hn5
  have hun := c_unite (L := L) hL hn hn5 (fun t ht => ⟨(hT.2.2.2.1 t ht).1, (hT.2.2.2.1 t ht).2.1⟩) t u ht hu
  have hnc := h.ncls
  have hle := nCls_le A.1.1.1 (I 7)
  generalize hJ : va_up I 7 (tmJn A.1.1.1 (I 7) (I 7 t) (I 7 u)) = J at hun
  have gJ : ∀ a, a ≠ 7 → J a = I a := fun a ha => by rw [← hJ]; exact vup_n ha
  have j7 : J 7 = tmJn A.1.1.1 (I 7) (I 7 t) (I 7 u) := by rw [← hJ, vup_s]
  have hr : RowsEq J 2 (jnX A.1.1 t u) := by
    have hjn := jnX_cg h1.ts ht hu
    refine ⟨by rw [gJ 2 (by decide)]; exact h1.1, fun j hj => ?_⟩
    have := hjn.2 j hj
    rw [gJ 3 (by decide), gJ 4 (by decide), gJ 5 (by decide), gJ 6 (by decide), j7]
    exact this
  have hY := jnX_ok h.2.1.2.1.1 ht hu
  have hrl : RulesAt S J 1 A.1.2 := h.2.1.2.2.2.2.1.pf ⟨Nat.le_refl _, fun a a1 _ => ⟨rfl, rfl, rfl, gJ a (by omega)⟩⟩ (by rw [gJ 1 (by decide)]) (fun _ _ => rfl)
  have hs := c_settleCR h (J := J) (fun a ha => gJ a (by omega)) hr hY hrl
  have rest : ∀ I3 : Nat → Nat → Int, CR S I3 L m ((clX (jnX A.1.1 t u), A.1.2), A.2) → MFr S I S I3 → tmW kX11_alike 7 0 0 68 [some (tR 0), some (tI t), some (tI u), some (tI (nCls A.1.1.1 (I 7) : Nat))] [] (S, I3, L) (NPost S I m ((nCls A.1.1.1 A.1.1.2.2.2.2.2 : Int) - (nCls A.1.1.1 (clX (jnX A.1.1 t u)).2.2.2.2.2 : Int)) (aNow A (clX (jnX A.1.1 t u), A.1.2))) := by
    intro I3 q1 q2
    have hT3 := q1.2.1.tinv
    have hc3 := c_classes (L := L) (I := I3) hL hT3.1 hT3.2.1
    have hn3 := q1.ncls
    have hn3' : ((nCls A.1.1.1 (I3 7) : Nat) : Int) = (nCls A.1.1.1 (clX (jnX A.1.1 t u)).2.2.2.2.2 : Int) := hn3
    refine wa_iload_n dX11_alike_68 rfl ?_
    refine wa_aload_n dX11_alike_69 rfl ?_
    refine wa_callVf (ci := 11) dX11_alike_70 KX11_classes LX11_119 ⟨_, _, rfl, by decide⟩ o0 (hc3) (by decide) rfl rfl (Nat.le_of_ble_eq_true rfl) rfl rfl ?_
    refine wa_isub dX11_alike_73 ?_
    refine wa_ireturn dX11_alike_74 rfl ?_
    refine ⟨?_, S, I3, L, rfl, q1, q2⟩
    show some (tI (((nCls A.1.1.1 (I 7) : Nat) : Int) - ((nCls A.1.1.1 (I3 7) : Nat) : Int))) = _
    rw [hn3', hnc]
    rfl
  have uni : tmC yX8_unite kX8_unite 3 0 0 [tR 2, tI t, tI u] (S, I, L) (fun q h' => (∃ v, q = some (tI v)) ∧ h' = (S, J, L)) := hun.weaken (fun q h' hq => by obtain ⟨rfl, rfl⟩ := hq; exact ⟨⟨_, rfl⟩, rfl⟩)
  refine wa_aload_n dX11_alike_46 rfl ?_
  refine wa_callVf (ci := 11) dX11_alike_47 KX11_classes LX11_119 ⟨_, _, rfl, by decide⟩ o0 (hc) (by decide) rfl rfl (Nat.le_of_ble_eq_true rfl) rfl rfl ?_
  refine wa_istore_n dX11_alike_50 (by decide) ?_
  refine wa_aload_n dX11_alike_51 rfl ?_
  refine wt_getR dX11_alike_52 FX11_10 (by assumption) (by assumption) ?_
  refine wt_getR dX11_alike_55 FX11_32 (by assumption) (by assumption) ?_
  refine wa_iload_n dX11_alike_58 rfl ?_
  refine wa_iload_n dX11_alike_59 rfl ?_
  refine wa_callV (ci := 8) dX11_alike_60 KX8_unite LX11_123 ⟨_, _, rfl, by decide⟩ o2 (uni) (by decide) rfl (Nat.le_of_ble_eq_true rfl) rfl rfl (fun r h' hq => ?_)
  obtain ⟨⟨v, rfl⟩, rfl⟩ := hq
  refine wa_pop dX11_alike_63 rfl ?_
  refine wa_aload_n dX11_alike_64 rfl ?_
  refine wa_callV (ci := 11) dX11_alike_65 KX11_settleAll LX11_116 ⟨_, _, rfl, by decide⟩ o0 (hs) (by decide) rfl (Nat.le_of_ble_eq_true rfl) rfl rfl (fun r h' hq => ?_)
  obtain ⟨rfl, I3, rfl, q1, q2, _⟩ := hq
  exact rest I3 q1 q2
set_option maxRecDepth 20000 in
theorem c_alike {m : Nat} {A : AS} (h : CR S I L m A) (hm : m ≤ 1000) (t u : Int) (ht : inR t) (hu : inR u) : tmC yX11_alike kX11_alike 7 0 0 [tR 0, tI t, tI u] (S, I, L) (CPost S I (m + 1) (tI (spAlike A t u).1) (spAlike A t u).2) := by
  refine tmC.mk (lv := [some (tR 0), some (tI t), some (tI u), none]) 1 ⟨rfl, by decide +kernel, by decide⟩ rfl rfl ?_
  have hL := h.1
  have hT := h.2.1.tinv
  have o0 := oX0 hL
  have r0_0 := rX0_0 hL
  have r0_1 := rX0_1 hL
  have r0_2 := rX0_2 hL
  have r0_3 := rX0_3 hL
  have r0_4 := rX0_4 hL
  have r0_5 := rX0_5 hL
  have r0_6 := rX0_6 hL
  have r0_7 := rX0_7 hL
  have r0_8 := rX0_8 hL
  have o1 := oX1 hL
  have r1_0 := rX1_0 hL
  have r1_1 := rX1_1 hL
  have r1_3 := rX1_3 hL
  have o2 := oX2 hL
  have r2_1 := rX2_1 hL
  have r2_2 := rX2_2 hL
  have r2_3 := rX2_3 hL
  have r2_4 := rX2_4 hL
  have r2_5 := rX2_5 hL
  have o14 := oX14 hL
  have r14_0 := rX14_0 hL
  have k1 := c_has (L := L) hL hT.1 t ht
  have k2 := c_has (L := L) hL hT.1 u hu
  have hrf := c_rf0 h hm
  have hk := c_keepA h
  by_cases c1 : isT A t
  · rw [if_pos c1] at k1
    by_cases c2 : isT A u
    · rw [if_pos c2] at k2
      obtain ⟨t', rfl⟩ : ∃ t' : Nat, t = (t' : Int) := ⟨t.toNat, by have := c1.1; omega⟩
      obtain ⟨u', rfl⟩ : ∃ u' : Nat, u = (u' : Int) := ⟨u.toNat, by have := c2.1; omega⟩
      unfold spAlike
      rw [if_pos ⟨c1, c2⟩]
      simp only [Int.toNat_natCast]
      refine wa_aload_n dX11_alike_0 rfl ?_
      refine wt_getR dX11_alike_1 FX11_10 (by assumption) (by assumption) ?_
      refine wt_getR dX11_alike_4 FX11_32 (by assumption) (by assumption) ?_
      refine wa_iload_n dX11_alike_7 rfl ?_
      refine wa_callVf (ci := 8) dX11_alike_8 KX8_has LX11_92 ⟨_, _, rfl, by decide⟩ o2 (k1) (by decide) rfl rfl (Nat.le_of_ble_eq_true rfl) rfl rfl ?_
      refine wa_if_eq 28 dX11_alike_11 (by decide) (by exact ⟨by omega, by omega⟩) (fun c_11 => ?_) (fun c_11 => ?_)
      · omega
      · refine wa_aload_n dX11_alike_14 rfl ?_
        refine wt_getR dX11_alike_15 FX11_10 (by assumption) (by assumption) ?_
        refine wt_getR dX11_alike_18 FX11_32 (by assumption) (by assumption) ?_
        refine wa_iload_n dX11_alike_21 rfl ?_
        refine wa_callVf (ci := 8) dX11_alike_22 KX8_has LX11_92 ⟨_, _, rfl, by decide⟩ o2 (k2) (by decide) rfl rfl (Nat.le_of_ble_eq_true rfl) rfl rfl ?_
        refine wa_if_ne 35 dX11_alike_25 (by decide) (by exact ⟨by omega, by omega⟩) (fun c_25 => ?_) (fun c_25 => ?_)
        · refine wa_aload_n dX11_alike_35 rfl ?_
          refine wt_getR dX11_alike_36 FX11_19 (by assumption) (by assumption) ?_
          refine wa_aload_n dX11_alike_39 rfl ?_
          refine wt_getR dX11_alike_40 FX11_10 (by assumption) (by assumption) ?_
          refine wa_callV (ci := 7) dX11_alike_43 KX7_keep LX11_105 ⟨_, _, rfl, by decide⟩ o14 (hk) (by decide) rfl (Nat.le_of_ble_eq_true rfl) rfl rfl (fun r h' hq => ?_)
          obtain ⟨rfl, S', I', rfl, q1, q2, q3, q4, q5⟩ := hq
          refine (alike_b q1 (show t' < A.1.1.1 by have := c1.2; omega) (show u' < A.1.1.1 by have := c2.2; omega)).wk (fun r h'' hr => ?_)
          obtain ⟨rfl, S2, I2, L2, rfl, r1, r2⟩ := hr
          exact ⟨rfl, S2, I2, L2, rfl, r1.up (by omega), q2.trans' r2⟩
        · omega
    · rw [if_neg c2] at k2
      have e : spAlike A t u = (-2, aRf A 0) := by unfold spAlike; rw [if_neg (fun z => c2 z.2)]
      rw [e]
      refine wa_aload_n dX11_alike_0 rfl ?_
      refine wt_getR dX11_alike_1 FX11_10 (by assumption) (by assumption) ?_
      refine wt_getR dX11_alike_4 FX11_32 (by assumption) (by assumption) ?_
      refine wa_iload_n dX11_alike_7 rfl ?_
      refine wa_callVf (ci := 8) dX11_alike_8 KX8_has LX11_92 ⟨_, _, rfl, by decide⟩ o2 (k1) (by decide) rfl rfl (Nat.le_of_ble_eq_true rfl) rfl rfl ?_
      refine wa_if_eq 28 dX11_alike_11 (by decide) (by exact ⟨by omega, by omega⟩) (fun c_11 => ?_) (fun c_11 => ?_)
      · omega
      · refine wa_aload_n dX11_alike_14 rfl ?_
        refine wt_getR dX11_alike_15 FX11_10 (by assumption) (by assumption) ?_
        refine wt_getR dX11_alike_18 FX11_32 (by assumption) (by assumption) ?_
        refine wa_iload_n dX11_alike_21 rfl ?_
        refine wa_callVf (ci := 8) dX11_alike_22 KX8_has LX11_92 ⟨_, _, rfl, by decide⟩ o2 (k2) (by decide) rfl rfl (Nat.le_of_ble_eq_true rfl) rfl rfl ?_
        refine wa_if_ne 35 dX11_alike_25 (by decide) (by exact ⟨by omega, by omega⟩) (fun c_25 => ?_) (fun c_25 => ?_)
        · omega
        · refine wa_aload_n dX11_alike_28 rfl ?_
          refine wa_bipush dX11_alike_29 rfl ?_
          refine wa_callV (ci := 11) dX11_alike_31 KX11_refuse LX11_88 ⟨_, _, rfl, by decide⟩ o0 (hrf) (by decide) rfl (Nat.le_of_ble_eq_true rfl) rfl rfl (fun r h' hq => ?_)
          obtain ⟨rfl, hq⟩ := hq
          refine wa_ireturn dX11_alike_34 rfl ?_
          exact ⟨rfl, hq⟩
  · rw [if_neg c1] at k1
    have e : spAlike A t u = (-2, aRf A 0) := by unfold spAlike; rw [if_neg (fun z => c1 z.1)]
    rw [e]
    refine wa_aload_n dX11_alike_0 rfl ?_
    refine wt_getR dX11_alike_1 FX11_10 (by assumption) (by assumption) ?_
    refine wt_getR dX11_alike_4 FX11_32 (by assumption) (by assumption) ?_
    refine wa_iload_n dX11_alike_7 rfl ?_
    refine wa_callVf (ci := 8) dX11_alike_8 KX8_has LX11_92 ⟨_, _, rfl, by decide⟩ o2 (k1) (by decide) rfl rfl (Nat.le_of_ble_eq_true rfl) rfl rfl ?_
    refine wa_if_eq 28 dX11_alike_11 (by decide) (by exact ⟨by omega, by omega⟩) (fun c_11 => ?_) (fun c_11 => ?_)
    · refine wa_aload_n dX11_alike_28 rfl ?_
      refine wa_bipush dX11_alike_29 rfl ?_
      refine wa_callV (ci := 11) dX11_alike_31 KX11_refuse LX11_88 ⟨_, _, rfl, by decide⟩ o0 (hrf) (by decide) rfl (Nat.le_of_ble_eq_true rfl) rfl rfl (fun r h' hq => ?_)
      obtain ⟨rfl, hq⟩ := hq
      refine wa_ireturn dX11_alike_34 rfl ?_
      exact ⟨rfl, hq⟩
    · omega
theorem emX_ok : TsOK emX := ⟨by decide, fun t ht => by have : t < 0 := ht; omega, fun t ht => by have : t < 0 := ht; omega, fun t ht => by have : t < 0 := ht; omega⟩
set_option maxRecDepth 20000 in
theorem c_anew {m : Nat} {A : AS} (h : CR S I L m A) : tmC yX11_anew kX11_anew 7 0 0 [tR 0] (S, I, L) (CPost S I (m + 1) (tI (spAnew A).1) (spAnew A).2) := by
  refine tmC.mk (lv := [some (tR 0), none]) 1 ⟨rfl, by decide +kernel, by decide⟩ rfl rfl ?_
  have hL := h.1
  have o0 := oX0 hL
  have r0_0 := rX0_0 hL
  have r0_1 := rX0_1 hL
  have r0_2 := rX0_2 hL
  have r0_3 := rX0_3 hL
  have r0_4 := rX0_4 hL
  have r0_5 := rX0_5 hL
  have r0_6 := rX0_6 hL
  have r0_7 := rX0_7 hL
  have r0_8 := rX0_8 hL
  have o1 := oX1 hL
  have r1_0 := rX1_0 hL
  have r1_1 := rX1_1 hL
  have r1_3 := rX1_3 hL
  have o14 := oX14 hL
  have r14_0 := rX14_0 hL
  have hk := c_keepA h
  have rest : ∀ (S' : tmS) (I' : Nat → Nat → Int), CR S' I' L m (aKeep A) → MFr S I S' I' → tmW kX11_anew 7 0 0 11 [some (tR 0), none] [] (S', I', L) (CPost S I (m + 1) (tI (spAnew A).1) (spAnew A).2) := by
    intro S' I' q1 q2
    have hL := q1.1
    have o0 := oX0 hL
    have r0_0 := rX0_0 hL
    have r0_1 := rX0_1 hL
    have r0_2 := rX0_2 hL
    have r0_3 := rX0_3 hL
    have r0_4 := rX0_4 hL
    have r0_5 := rX0_5 hL
    have r0_6 := rX0_6 hL
    have r0_7 := rX0_7 hL
    have r0_8 := rX0_8 hL
    have o1 := oX1 hL
    have r1_0 := rX1_0 hL
    have r1_1 := rX1_1 hL
    have r1_3 := rX1_3 hL
    have o2 := oX2 hL
    have r2_1 := rX2_1 hL
    have r2_2 := rX2_2 hL
    have r2_3 := rX2_3 hL
    have r2_4 := rX2_4 hL
    have r2_5 := rX2_5 hL
    have he := c_Sempty (I := I') (L := L) hL
    generalize hJ : va_up (va_up I' 2 (va_up (I' 2) 0 0)) 1 (va_up (I' 1) 2 0) = J at he
    have gJ : ∀ a, (a < 1 ∨ 8 ≤ a) → J a = I' a := fun a ha => by rw [← hJ, vup_n (by omega), vup_n (by omega)]
    have hr : RowsEq J 2 emX := ⟨by rw [← hJ, vup_n (by decide), vup_s, vup_s]; rfl, fun t ht => by have : t < 0 := ht; omega⟩
    have hrl : RulesAt S' J 1 [] := ⟨by rw [← hJ, vup_s, vup_s]; rfl, by simp, fun r w hr => by simp at hr⟩
    have hs := c_settleCR q1 (J := J) gJ hr emX_ok hrl
    have hn := q1.2.1.1.1
    have hn : I' 2 0 = (A.1.1.1 : Int) := hn
    refine wa_aload_n dX11_anew_11 rfl ?_
    refine wt_getR dX11_anew_12 FX11_10 (by assumption) (by assumption) ?_
    refine wt_getR dX11_anew_15 FX11_32 (by assumption) (by assumption) ?_
    refine wt_getI dX11_anew_18 FX11_102 (by assumption) ?_
    try rw [hn]
    refine wa_istore_n dX11_anew_21 (by decide) ?_
    refine wa_aload_n dX11_anew_22 rfl ?_
    refine wt_getR dX11_anew_23 FX11_10 (by assumption) (by assumption) ?_
    refine wa_callVf (ci := 6) dX11_anew_26 KX6_empty LX11_127 ⟨_, _, rfl, by decide⟩ o1 (he) (by decide) rfl rfl (Nat.le_of_ble_eq_true rfl) rfl rfl ?_
    refine wa_aload_n dX11_anew_29 rfl ?_
    refine wa_callV (ci := 11) dX11_anew_30 KX11_settleAll LX11_116 ⟨_, _, rfl, by decide⟩ o0 (hs) (by decide) rfl (Nat.le_of_ble_eq_true rfl) rfl rfl (fun r h' hq => ?_)
    obtain ⟨rfl, I3, rfl, r1, r2, _⟩ := hq
    refine wa_iload_n dX11_anew_33 rfl ?_
    refine wa_ireturn dX11_anew_34 rfl ?_
    exact ⟨rfl, S', I3, L, rfl, CR.up r1 (by omega), q2.trans' r2⟩
  refine wa_aload_n dX11_anew_0 rfl ?_
  refine wt_getR dX11_anew_1 FX11_19 (by assumption) (by assumption) ?_
  refine wa_aload_n dX11_anew_4 rfl ?_
  refine wt_getR dX11_anew_5 FX11_10 (by assumption) (by assumption) ?_
  refine wa_callV (ci := 7) dX11_anew_8 KX7_keep LX11_105 ⟨_, _, rfl, by decide⟩ o14 (hk) (by decide) rfl (Nat.le_of_ble_eq_true rfl) rfl rfl (fun r h' hq => ?_)
  obtain ⟨rfl, S', I', rfl, q1, q2, q3, q4, q5⟩ := hq
  exact rest S' I' q1 q2
end S85
