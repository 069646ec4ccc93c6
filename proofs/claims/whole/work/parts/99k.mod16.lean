/-! ===== 99k: the reference: costOf ===== -/
section S99k
variable {S : tmS} {I : Nat → Nat → Int} {L : Nat → Nat → Int64}
set_option maxRecDepth 20000 in
theorem mcost_inner (hL : LX S) {X : TS} (hX : XOK X) (hM : MT I X) {t0 tm : Nat} (htm : tm < 50) (Q : Option tmV → tmH → Prop) : ∀ (k t : Nat) (J : Nat → Nat → Int) (c : Nat → Int) (a4 : Option tmV), t + k = X.1 → (∀ a, a ≠ 190 → J a = I a) → (∀ x, x < X.1 → J 190 x = c x) → fwB c →
    (∀ (J' : Nat → Nat → Int) (a3 a4' : Option tmV), (∀ a, a ≠ 190 → J' a = I a) → (∀ x, x < X.1 → J' 190 x = fwRun X.1 X.2.2.1 X.2.2.2.1 X.2.2.2.2.2 k t c x) → tmW kX12_costOf 2 0 0 169 [some (tR 168), some (tI t0), some (tI tm), a3, a4'] [] (S, J', L) Q) →
    tmW kX12_costOf 2 0 0 40 [some (tR 168), some (tI t0), some (tI tm), some (tI t), a4] [] (S, J, L) Q := by
  intro k
  have o168 := oX168 hL
  have r168_0 := rX168_0 hL
  have r168_1 := rX168_1 hL
  have r168_3 := rX168_3 hL
  have r168_4 := rX168_4 hL
  have r168_5 := rX168_5 hL
  have r168_6 := rX168_6 hL
  have r168_7 := rX168_7 hL
  have r168_8 := rX168_8 hL
  have r168_11 := rX168_11 hL
  have r168_13 := rX168_13 hL
  have r168_17 := rX168_17 hL
  have r168_18 := rX168_18 hL
  have r168_19 := rX168_19 hL
  have r168_21 := rX168_21 hL
  have r168_22 := rX168_22 hL
  have r168_23 := rX168_23 hL
  have r168_24 := rX168_24 hL
  have r168_25 := rX168_25 hL
  have r168_26 := rX168_26 hL
  have r168_27 := rX168_27 hL
  have r168_28 := rX168_28 hL
  have r168_29 := rX168_29 hL
  have r168_30 := rX168_30 hL
  have o169 := oX169 hL
  have o190 := oX190 hL
  have h50 := hX.1.1
  induction k with
  | zero =>
    intro t J c a4 ht hJ hc hb kk
    have j0 : J 169 0 = (X.1 : Int) := by rw [hJ 169 (by decide)]; exact hM.1
    have := kk J (some (tI t)) a4 hJ hc
    refine wa_iload_n dX12_costOf_40 rfl ?_
    refine wa_aload_n dX12_costOf_41 rfl ?_
    refine wt_getR dX12_costOf_42 FX12_7 (by assumption) (by assumption) ?_
    refine wa_iconst dX12_costOf_45 ?_
    refine wt_iald 0 dX12_costOf_46 (by assumption) rfl (by omega) ?_
    try first | rw [j0] | skip
    refine wa_icmp_ge 169 dX12_costOf_47 (by decide) (by exact ⟨by omega, by omega⟩) (by exact ⟨by omega, by omega⟩) (fun c_47 => ?_) (fun c_47 => ?_)
    · exact this
    · omega
  | succ k ih =>
    intro t J c a4 ht hJ hc hb kk
    have e9 := hJ 169 (by decide)
    have j0 : J 169 0 = (X.1 : Int) := by rw [e9]; exact hM.1
    have jh : ∀ p, p < X.1 → J 169 (202 + p) = X.2.2.2.2.2 p := fun p hp => by rw [e9]; exact (hM.2 p hp).2.2.2.2
    have j1 : J 169 (52 + t) = X.2.2.1 t := by rw [e9]; exact (hM.2 t (by omega)).2.1
    have j2 : J 169 (102 + t) = X.2.2.2.1 t := by rw [e9]; exact (hM.2 t (by omega)).2.2.1
    have wf := hX.1.2.1 t (by omega)
    have hho := hX.1.2.2.1
    have cls : ∀ p, p < X.1 → ∃ q : Nat, q < X.1 ∧ X.2.2.2.2.2 p = (q : Int) ∧ tmC yX12_classOf kX12_classOf 1 0 0 [tR 168, tI p] (S, J, L) (tmF (some (tI q)) (S, J, L)) ∧ J 190 q = c q ∧ 0 ≤ c q ∧ c q ≤ 1000000 ∧ fwOf c (X.2.2.2.2.2 p) = c q := fun p hp => by
      have z := hho p hp
      obtain ⟨q, hq⟩ : ∃ q : Nat, X.2.2.2.2.2 p = (q : Int) := ⟨(X.2.2.2.2.2 p).toNat, by omega⟩
      have kc := c_mclassOf (I := J) (L := L) hL p (by omega)
      rw [jh p hp, hq] at kc
      have hb2 := hb q (by omega)
      refine ⟨q, by omega, hq, kc, hc q (by omega), hb2.1, hb2.2, ?_⟩
      rw [hq]
      unfold fwOf
      rw [if_pos ⟨by omega, by omega⟩, Int.toNat_natCast]
    obtain ⟨hN, hN1, hN2, hN3, hN4, hN5, hN6, hN7⟩ := cls t (by omega)
    have stC : ∀ sum : Int, 0 ≤ sum ∧ sum ≤ 3000000 → sum = 1 + fwOf c (tmHome X.1 X.2.2.2.2.2 (X.2.2.1 t)) + fwOf c (tmHome X.1 X.2.2.2.2.2 (X.2.2.2.1 t)) → tmW kX12_costOf 2 0 0 123 [some (tR 168), some (tI t0), some (tI tm), some (tI t), some (tI sum)] [] (S, J, L) Q := fun sum hsum es => by
      have step : ∀ v : Int, v = (if sum < c hN then sum else c hN) → tmW kX12_costOf 2 0 0 40 [some (tR 168), some (tI t0), some (tI tm), some (tI (t + 1 : Nat)), some (tI sum)] [] (S, va_up J 190 (va_up (J 190) hN v), L) Q := fun v hv => by
        have ef : ∀ x, x < X.1 → va_up (J 190) hN v x = fwStep X.1 X.2.2.1 X.2.2.2.1 X.2.2.2.2.2 t c x := fun x hx => by
          unfold fwStep
          rw [← es, hN2, Int.toNat_natCast]
          by_cases z : sum < c hN
          · rw [if_pos z] at hv ⊢
            rw [hv]
            by_cases y : x = hN
            · subst y; rw [vup_s, vup_s]
            · rw [vup_n y, vup_n y]; exact hc x hx
          · rw [if_neg z] at hv ⊢
            rw [hv]
            by_cases y : x = hN
            · subst y; rw [vup_s]
            · rw [vup_n y]; exact hc x hx
        refine ih (t + 1) _ (fwStep X.1 X.2.2.1 X.2.2.2.1 X.2.2.2.2.2 t c) _ (by omega) (fun a ha => by rw [vup_n ha]; exact hJ a ha) (fun x hx => by rw [vup_s]; exact ef x hx) (fwStep_b hb) (fun J' a3 a4' h1 h2 => kk J' a3 a4' h1 h2)
      by_cases z : sum < c hN
      · have nx := step sum (by rw [if_pos z])
        refine wa_aload_n dX12_costOf_123 rfl ?_
        refine wt_getR dX12_costOf_124 FX12_73 (by assumption) (by assumption) ?_
        refine wa_aload_n dX12_costOf_127 rfl ?_
        refine wa_iload_n dX12_costOf_128 rfl ?_
        refine wa_callVf (ci := 12) dX12_costOf_129 KX12_classOf LX12_95 ⟨_, _, rfl, by decide⟩ o168 (hN3) (by decide) rfl rfl (Nat.le_of_ble_eq_true rfl) rfl rfl ?_
        refine wa_iload dX12_costOf_132 rfl ?_
        refine wa_aload_n dX12_costOf_134 rfl ?_
        refine wt_getR dX12_costOf_135 FX12_73 (by assumption) (by assumption) ?_
        refine wa_aload_n dX12_costOf_138 rfl ?_
        refine wa_iload_n dX12_costOf_139 rfl ?_
        refine wa_callVf (ci := 12) dX12_costOf_140 KX12_classOf LX12_95 ⟨_, _, rfl, by decide⟩ o168 (hN3) (by decide) rfl rfl (Nat.le_of_ble_eq_true rfl) rfl rfl ?_
        refine wt_iald hN dX12_costOf_143 (by assumption) rfl (by omega) ?_
        try first | rw [hN4] | skip
        refine wa_icmp_ge 152 dX12_costOf_144 (by decide) (by exact ⟨by omega, by omega⟩) (by exact ⟨by omega, by omega⟩) (fun c_144 => ?_) (fun c_144 => ?_)
        · omega
        · refine wa_iload dX12_costOf_147 rfl ?_
          refine wa_goto 162 dX12_costOf_149 (by decide) ?_
          refine wt_iast hN dX12_costOf_162 (by assumption) rfl (by omega) (by exact ⟨by omega, by omega⟩) ?_
          refine wa_iinc dX12_costOf_163 rfl (by decide) ?_
          refine wa_goto 40 dX12_costOf_166 (by decide) ?_
          exact nx
      · have nx := step (c hN) (by rw [if_neg z])
        refine wa_aload_n dX12_costOf_123 rfl ?_
        refine wt_getR dX12_costOf_124 FX12_73 (by assumption) (by assumption) ?_
        refine wa_aload_n dX12_costOf_127 rfl ?_
        refine wa_iload_n dX12_costOf_128 rfl ?_
        refine wa_callVf (ci := 12) dX12_costOf_129 KX12_classOf LX12_95 ⟨_, _, rfl, by decide⟩ o168 (hN3) (by decide) rfl rfl (Nat.le_of_ble_eq_true rfl) rfl rfl ?_
        refine wa_iload dX12_costOf_132 rfl ?_
        refine wa_aload_n dX12_costOf_134 rfl ?_
        refine wt_getR dX12_costOf_135 FX12_73 (by assumption) (by assumption) ?_
        refine wa_aload_n dX12_costOf_138 rfl ?_
        refine wa_iload_n dX12_costOf_139 rfl ?_
        refine wa_callVf (ci := 12) dX12_costOf_140 KX12_classOf LX12_95 ⟨_, _, rfl, by decide⟩ o168 (hN3) (by decide) rfl rfl (Nat.le_of_ble_eq_true rfl) rfl rfl ?_
        refine wt_iald hN dX12_costOf_143 (by assumption) rfl (by omega) ?_
        try first | rw [hN4] | skip
        refine wa_icmp_ge 152 dX12_costOf_144 (by decide) (by exact ⟨by omega, by omega⟩) (by exact ⟨by omega, by omega⟩) (fun c_144 => ?_) (fun c_144 => ?_)
        · refine wa_aload_n dX12_costOf_152 rfl ?_
          refine wt_getR dX12_costOf_153 FX12_73 (by assumption) (by assumption) ?_
          refine wa_aload_n dX12_costOf_156 rfl ?_
          refine wa_iload_n dX12_costOf_157 rfl ?_
          refine wa_callVf (ci := 12) dX12_costOf_158 KX12_classOf LX12_95 ⟨_, _, rfl, by decide⟩ o168 (hN3) (by decide) rfl rfl (Nat.le_of_ble_eq_true rfl) rfl rfl ?_
          refine wt_iald hN dX12_costOf_161 (by assumption) rfl (by omega) ?_
          try first | rw [hN4] | skip
          refine wt_iast hN dX12_costOf_162 (by assumption) rfl (by omega) (by exact ⟨by omega, by omega⟩) ?_
          refine wa_iinc dX12_costOf_163 rfl (by decide) ?_
          refine wa_goto 40 dX12_costOf_166 (by decide) ?_
          exact nx
        · omega
    have tn : ∀ x : Int, x < 0 → fwOf c (tmHome X.1 X.2.2.2.2.2 x) = 0 := fun x hx => by
      unfold tmHome
      rw [if_neg (by omega)]
      unfold fwOf
      rw [if_neg (by omega)]
    have tp : ∀ p : Nat, p < X.1 → tmHome X.1 X.2.2.2.2.2 (p : Int) = X.2.2.2.2.2 p := fun p hp => by
      unfold tmHome
      rw [if_pos ⟨by omega, by omega⟩, Int.toNat_natCast]
    have stB : ∀ v : Int, 0 ≤ v ∧ v ≤ 1000001 → v = 1 + fwOf c (tmHome X.1 X.2.2.2.2.2 (X.2.2.1 t)) → tmW kX12_costOf 2 0 0 86 [some (tR 168), some (tI t0), some (tI tm), some (tI t), a4] [tI v] (S, J, L) Q := fun v hv ev => by
      by_cases z : X.2.2.2.1 t < 0
      · have nx := stC v (by omega) (by rw [tn _ z]; omega)
        have ez : v + 0 = v := by omega
        refine wa_aload_n dX12_costOf_86 rfl ?_
        refine wt_getR dX12_costOf_87 FX12_7 (by assumption) (by assumption) ?_
        refine wa_bipush dX12_costOf_90 rfl ?_
        refine wa_iload_n dX12_costOf_92 rfl ?_
        refine wa_iadd dX12_costOf_93 ?_
        refine wt_iald (102 + t) dX12_costOf_94 (by assumption) (by omega) (by omega) ?_
        try first | rw [j2] | skip
        refine wa_if_ge 102 dX12_costOf_95 (by decide) (by exact ⟨by omega, by omega⟩) (fun c_95 => ?_) (fun c_95 => ?_)
        · omega
        · refine wa_iconst dX12_costOf_98 ?_
          refine wa_goto 120 dX12_costOf_99 (by decide) ?_
          refine wa_iadd dX12_costOf_120 ?_
          rw [ez]
          refine wa_istore dX12_costOf_121 (by decide) ?_
          exact nx
      · obtain ⟨p, hp⟩ : ∃ p : Nat, X.2.2.2.1 t = (p : Int) := ⟨(X.2.2.2.1 t).toNat, by omega⟩
        obtain ⟨q, q1, q2, q3, q4, q5, q6, q7⟩ := cls p (by omega)
        have nx := stC (v + c q) (by omega) (by rw [hp, tp p (by omega), q7]; omega)
        refine wa_aload_n dX12_costOf_86 rfl ?_
        refine wt_getR dX12_costOf_87 FX12_7 (by assumption) (by assumption) ?_
        refine wa_bipush dX12_costOf_90 rfl ?_
        refine wa_iload_n dX12_costOf_92 rfl ?_
        refine wa_iadd dX12_costOf_93 ?_
        refine wt_iald (102 + t) dX12_costOf_94 (by assumption) (by omega) (by omega) ?_
        try first | rw [j2, hp] | rw [q4] | skip
        refine wa_if_ge 102 dX12_costOf_95 (by decide) (by exact ⟨by omega, by omega⟩) (fun c_95 => ?_) (fun c_95 => ?_)
        · refine wa_aload_n dX12_costOf_102 rfl ?_
          refine wt_getR dX12_costOf_103 FX12_73 (by assumption) (by assumption) ?_
          refine wa_aload_n dX12_costOf_106 rfl ?_
          refine wa_aload_n dX12_costOf_107 rfl ?_
          refine wt_getR dX12_costOf_108 FX12_7 (by assumption) (by assumption) ?_
          refine wa_bipush dX12_costOf_111 rfl ?_
          refine wa_iload_n dX12_costOf_113 rfl ?_
          refine wa_iadd dX12_costOf_114 ?_
          refine wt_iald (102 + t) dX12_costOf_115 (by assumption) (by omega) (by omega) ?_
          try first | rw [j2, hp] | rw [q4] | skip
          refine wa_callVf (ci := 12) dX12_costOf_116 KX12_classOf LX12_95 ⟨_, _, rfl, by decide⟩ o168 (q3) (by decide) rfl rfl (Nat.le_of_ble_eq_true rfl) rfl rfl ?_
          refine wt_iald q dX12_costOf_119 (by assumption) rfl (by omega) ?_
          try first | rw [j2, hp] | rw [q4] | skip
          refine wa_iadd dX12_costOf_120 ?_
          refine wa_istore dX12_costOf_121 (by decide) ?_
          exact nx
        · omega
    by_cases z : X.2.2.1 t < 0
    · have nx := stB (1 + 0) (by omega) (by rw [tn _ z])
      refine wa_iload_n dX12_costOf_40 rfl ?_
      refine wa_aload_n dX12_costOf_41 rfl ?_
      refine wt_getR dX12_costOf_42 FX12_7 (by assumption) (by assumption) ?_
      refine wa_iconst dX12_costOf_45 ?_
      refine wt_iald 0 dX12_costOf_46 (by assumption) rfl (by omega) ?_
      try first | rw [j0] | rw [j1] | skip
      refine wa_icmp_ge 169 dX12_costOf_47 (by decide) (by exact ⟨by omega, by omega⟩) (by exact ⟨by omega, by omega⟩) (fun c_47 => ?_) (fun c_47 => ?_)
      · omega
      · refine wa_iconst dX12_costOf_50 ?_
        refine wa_aload_n dX12_costOf_51 rfl ?_
        refine wt_getR dX12_costOf_52 FX12_7 (by assumption) (by assumption) ?_
        refine wa_bipush dX12_costOf_55 rfl ?_
        refine wa_iload_n dX12_costOf_57 rfl ?_
        refine wa_iadd dX12_costOf_58 ?_
        refine wt_iald (52 + t) dX12_costOf_59 (by assumption) (by omega) (by omega) ?_
        try first | rw [j0] | rw [j1] | skip
        refine wa_if_ge 67 dX12_costOf_60 (by decide) (by exact ⟨by omega, by omega⟩) (fun c_60 => ?_) (fun c_60 => ?_)
        · omega
        · refine wa_iconst dX12_costOf_63 ?_
          refine wa_goto 85 dX12_costOf_64 (by decide) ?_
          refine wa_iadd dX12_costOf_85 ?_
          exact nx
    · obtain ⟨p, hp⟩ : ∃ p : Nat, X.2.2.1 t = (p : Int) := ⟨(X.2.2.1 t).toNat, by omega⟩
      obtain ⟨q, q1, q2, q3, q4, q5, q6, q7⟩ := cls p (by omega)
      have nx := stB (1 + c q) (by omega) (by rw [hp, tp p (by omega), q7])
      refine wa_iload_n dX12_costOf_40 rfl ?_
      refine wa_aload_n dX12_costOf_41 rfl ?_
      refine wt_getR dX12_costOf_42 FX12_7 (by assumption) (by assumption) ?_
      refine wa_iconst dX12_costOf_45 ?_
      refine wt_iald 0 dX12_costOf_46 (by assumption) rfl (by omega) ?_
      try first | rw [j0] | rw [j1, hp] | rw [q4] | skip
      refine wa_icmp_ge 169 dX12_costOf_47 (by decide) (by exact ⟨by omega, by omega⟩) (by exact ⟨by omega, by omega⟩) (fun c_47 => ?_) (fun c_47 => ?_)
      · omega
      · refine wa_iconst dX12_costOf_50 ?_
        refine wa_aload_n dX12_costOf_51 rfl ?_
        refine wt_getR dX12_costOf_52 FX12_7 (by assumption) (by assumption) ?_
        refine wa_bipush dX12_costOf_55 rfl ?_
        refine wa_iload_n dX12_costOf_57 rfl ?_
        refine wa_iadd dX12_costOf_58 ?_
        refine wt_iald (52 + t) dX12_costOf_59 (by assumption) (by omega) (by omega) ?_
        try first | rw [j0] | rw [j1, hp] | rw [q4] | skip
        refine wa_if_ge 67 dX12_costOf_60 (by decide) (by exact ⟨by omega, by omega⟩) (fun c_60 => ?_) (fun c_60 => ?_)
        · refine wa_aload_n dX12_costOf_67 rfl ?_
          refine wt_getR dX12_costOf_68 FX12_73 (by assumption) (by assumption) ?_
          refine wa_aload_n dX12_costOf_71 rfl ?_
          refine wa_aload_n dX12_costOf_72 rfl ?_
          refine wt_getR dX12_costOf_73 FX12_7 (by assumption) (by assumption) ?_
          refine wa_bipush dX12_costOf_76 rfl ?_
          refine wa_iload_n dX12_costOf_78 rfl ?_
          refine wa_iadd dX12_costOf_79 ?_
          refine wt_iald (52 + t) dX12_costOf_80 (by assumption) (by omega) (by omega) ?_
          try first | rw [j0] | rw [j1, hp] | rw [q4] | skip
          refine wa_callVf (ci := 12) dX12_costOf_81 KX12_classOf LX12_95 ⟨_, _, rfl, by decide⟩ o168 (q3) (by decide) rfl rfl (Nat.le_of_ble_eq_true rfl) rfl rfl ?_
          refine wt_iald q dX12_costOf_84 (by assumption) rfl (by omega) ?_
          try first | rw [j0] | rw [j1, hp] | rw [q4] | skip
          refine wa_iadd dX12_costOf_85 ?_
          exact nx
        · omega
set_option maxRecDepth 20000 in
theorem mcost_outer (hL : LX S) {X : TS} (hX : XOK X) (hM : MT I X) {t0 : Nat} {c0 : Nat → Int} (hb0 : fwB c0) (Q : Option tmV → tmH → Prop) : ∀ (k tm : Nat) (J : Nat → Nat → Int) (a3 a4 : Option tmV), tm + k = X.1 → (∀ a, a ≠ 190 → J a = I a) → (∀ x, x < X.1 → J 190 x = fwN X.1 X.2.2.1 X.2.2.2.1 X.2.2.2.2.2 c0 tm x) →
    (∀ (J' : Nat → Nat → Int) (a2 a3 a4' : Option tmV), (∀ a, a ≠ 190 → J' a = I a) → (∀ x, x < X.1 → J' 190 x = fwN X.1 X.2.2.1 X.2.2.2.1 X.2.2.2.2.2 c0 X.1 x) → tmW kX12_costOf 2 0 0 175 [some (tR 168), some (tI t0), a2, a3, a4'] [] (S, J', L) Q) →
    tmW kX12_costOf 2 0 0 28 [some (tR 168), some (tI t0), some (tI tm), a3, a4] [] (S, J, L) Q := by
  intro k
  have o168 := oX168 hL
  have r168_0 := rX168_0 hL
  have r168_1 := rX168_1 hL
  have r168_3 := rX168_3 hL
  have r168_4 := rX168_4 hL
  have r168_5 := rX168_5 hL
  have r168_6 := rX168_6 hL
  have r168_7 := rX168_7 hL
  have r168_8 := rX168_8 hL
  have r168_11 := rX168_11 hL
  have r168_13 := rX168_13 hL
  have r168_17 := rX168_17 hL
  have r168_18 := rX168_18 hL
  have r168_19 := rX168_19 hL
  have r168_21 := rX168_21 hL
  have r168_22 := rX168_22 hL
  have r168_23 := rX168_23 hL
  have r168_24 := rX168_24 hL
  have r168_25 := rX168_25 hL
  have r168_26 := rX168_26 hL
  have r168_27 := rX168_27 hL
  have r168_28 := rX168_28 hL
  have r168_29 := rX168_29 hL
  have r168_30 := rX168_30 hL
  have o169 := oX169 hL
  have h50 := hX.1.1
  induction k with
  | zero =>
    intro tm J a3 a4 ht hJ hc kk
    have j0 : J 169 0 = (X.1 : Int) := by rw [hJ 169 (by decide)]; exact hM.1
    obtain rfl : tm = X.1 := by omega
    have := kk J (some (tI X.1)) a3 a4 hJ hc
    refine wa_iload_n dX12_costOf_28 rfl ?_
    refine wa_aload_n dX12_costOf_29 rfl ?_
    refine wt_getR dX12_costOf_30 FX12_7 (by assumption) (by assumption) ?_
    refine wa_iconst dX12_costOf_33 ?_
    refine wt_iald 0 dX12_costOf_34 (by assumption) rfl (by omega) ?_
    try first | rw [j0] | skip
    refine wa_icmp_ge 175 dX12_costOf_35 (by decide) (by exact ⟨by omega, by omega⟩) (by exact ⟨by omega, by omega⟩) (fun c_35 => ?_) (fun c_35 => ?_)
    · exact this
    · omega
  | succ k ih =>
    intro tm J a3 a4 ht hJ hc kk
    have j0 : J 169 0 = (X.1 : Int) := by rw [hJ 169 (by decide)]; exact hM.1
    have inn := mcost_inner (I := I) (L := L) hL hX hM (t0 := t0) (tm := tm) (by omega) Q X.1 0 J _ a4 (by omega) hJ hc (fwN_b hb0 tm) (fun J' b3 b4 h1 h2 => by
      have nx := ih (tm + 1) J' b3 b4 (by omega) h1 h2 kk
      refine wa_iinc dX12_costOf_169 rfl (by decide) ?_
      refine wa_goto 28 dX12_costOf_172 (by decide) ?_
      exact nx
      )
    refine wa_iload_n dX12_costOf_28 rfl ?_
    refine wa_aload_n dX12_costOf_29 rfl ?_
    refine wt_getR dX12_costOf_30 FX12_7 (by assumption) (by assumption) ?_
    refine wa_iconst dX12_costOf_33 ?_
    refine wt_iald 0 dX12_costOf_34 (by assumption) rfl (by omega) ?_
    try first | rw [j0] | skip
    refine wa_icmp_ge 175 dX12_costOf_35 (by decide) (by exact ⟨by omega, by omega⟩) (by exact ⟨by omega, by omega⟩) (fun c_35 => ?_) (fun c_35 => ?_)
    · omega
    · refine wa_iconst dX12_costOf_38 ?_
      refine wa_istore_n dX12_costOf_39 (by decide) ?_
      exact inn
set_option maxRecDepth 20000 in
theorem mcost_fill (hL : LX S) {X : TS} (hX : XOK X) (hM : MT I X) {t0 : Nat} (Q : Option tmV → tmH → Prop) : ∀ (j k : Nat) (J : Nat → Nat → Int), k + j = X.1 → (∀ a, a ≠ 190 → J a = I a) → (∀ x, x < k → J 190 x = 1000000) →
    (∀ (J' : Nat → Nat → Int) (a2 : Option tmV), (∀ a, a ≠ 190 → J' a = I a) → (∀ x, x < X.1 → J' 190 x = 1000000) → tmW kX12_costOf 2 0 0 26 [some (tR 168), some (tI t0), a2, none, none] [] (S, J', L) Q) →
    tmW kX12_costOf 2 0 0 2 [some (tR 168), some (tI t0), some (tI k), none, none] [] (S, J, L) Q := by
  intro j
  have o168 := oX168 hL
  have r168_0 := rX168_0 hL
  have r168_1 := rX168_1 hL
  have r168_3 := rX168_3 hL
  have r168_4 := rX168_4 hL
  have r168_5 := rX168_5 hL
  have r168_6 := rX168_6 hL
  have r168_7 := rX168_7 hL
  have r168_8 := rX168_8 hL
  have r168_11 := rX168_11 hL
  have r168_13 := rX168_13 hL
  have r168_17 := rX168_17 hL
  have r168_18 := rX168_18 hL
  have r168_19 := rX168_19 hL
  have r168_21 := rX168_21 hL
  have r168_22 := rX168_22 hL
  have r168_23 := rX168_23 hL
  have r168_24 := rX168_24 hL
  have r168_25 := rX168_25 hL
  have r168_26 := rX168_26 hL
  have r168_27 := rX168_27 hL
  have r168_28 := rX168_28 hL
  have r168_29 := rX168_29 hL
  have r168_30 := rX168_30 hL
  have o169 := oX169 hL
  have o190 := oX190 hL
  have h50 := hX.1.1
  induction j with
  | zero =>
    intro k J hk hJ hc kk
    have j0 : J 169 0 = (X.1 : Int) := by rw [hJ 169 (by decide)]; exact hM.1
    obtain rfl : k = X.1 := by omega
    have := kk J (some (tI X.1)) hJ hc
    refine wa_iload_n dX12_costOf_2 rfl ?_
    refine wa_aload_n dX12_costOf_3 rfl ?_
    refine wt_getR dX12_costOf_4 FX12_7 (by assumption) (by assumption) ?_
    refine wa_iconst dX12_costOf_7 ?_
    refine wt_iald 0 dX12_costOf_8 (by assumption) rfl (by omega) ?_
    try first | rw [j0] | skip
    refine wa_icmp_ge 26 dX12_costOf_9 (by decide) (by exact ⟨by omega, by omega⟩) (by exact ⟨by omega, by omega⟩) (fun c_9 => ?_) (fun c_9 => ?_)
    · exact this
    · omega
  | succ j ih =>
    intro k J hk hJ hc kk
    have j0 : J 169 0 = (X.1 : Int) := by rw [hJ 169 (by decide)]; exact hM.1
    have nx := ih (k + 1) (va_up J 190 (va_up (J 190) k 1000000)) (by omega) (fun a ha => by rw [vup_n ha]; exact hJ a ha) (fun x hx => by
      rw [vup_s]
      by_cases y : x = k
      · subst y; rw [vup_s]
      · rw [vup_n y]; exact hc x (by omega)) kk
    refine wa_iload_n dX12_costOf_2 rfl ?_
    refine wa_aload_n dX12_costOf_3 rfl ?_
    refine wt_getR dX12_costOf_4 FX12_7 (by assumption) (by assumption) ?_
    refine wa_iconst dX12_costOf_7 ?_
    refine wt_iald 0 dX12_costOf_8 (by assumption) rfl (by omega) ?_
    try first | rw [j0] | skip
    refine wa_icmp_ge 26 dX12_costOf_9 (by decide) (by exact ⟨by omega, by omega⟩) (by exact ⟨by omega, by omega⟩) (fun c_9 => ?_) (fun c_9 => ?_)
    · omega
    · refine wa_aload_n dX12_costOf_12 rfl ?_
      refine wt_getR dX12_costOf_13 FX12_73 (by assumption) (by assumption) ?_
      refine wa_iload_n dX12_costOf_16 rfl ?_
      refine wa_ldc dX12_costOf_17 QX12_129 (a := 1000000) rfl ?_
      refine wt_iast k dX12_costOf_19 (by assumption) rfl (by omega) (by exact ⟨by omega, by omega⟩) ?_
      refine wa_iinc dX12_costOf_20 rfl (by decide) ?_
      refine wa_goto 2 dX12_costOf_23 (by decide) ?_
      exact nx
set_option maxRecDepth 20000 in
theorem c_mcostOf (hL : LX S) {X : TS} (hX : XOK X) (hM : MT I X) {t : Nat} (ht : t < X.1) : tmC yX12_costOf kX12_costOf 2 0 0 [tR 168, tI t] (S, I, L) (fun q h' => q = some (tI (costX X (X.2.2.2.2.2 t))) ∧ ∃ J, h' = (S, J, L) ∧ ∀ a, a ≠ 190 → J a = I a) := by
  refine tmC.mk (lv := [some (tR 168), some (tI t), none, none, none]) 3 ⟨rfl, by decide +kernel, by decide⟩ rfl rfl ?_
  have o168 := oX168 hL
  have r168_0 := rX168_0 hL
  have r168_1 := rX168_1 hL
  have r168_3 := rX168_3 hL
  have r168_4 := rX168_4 hL
  have r168_5 := rX168_5 hL
  have r168_6 := rX168_6 hL
  have r168_7 := rX168_7 hL
  have r168_8 := rX168_8 hL
  have r168_11 := rX168_11 hL
  have r168_13 := rX168_13 hL
  have r168_17 := rX168_17 hL
  have r168_18 := rX168_18 hL
  have r168_19 := rX168_19 hL
  have r168_21 := rX168_21 hL
  have r168_22 := rX168_22 hL
  have r168_23 := rX168_23 hL
  have r168_24 := rX168_24 hL
  have r168_25 := rX168_25 hL
  have r168_26 := rX168_26 hL
  have r168_27 := rX168_27 hL
  have r168_28 := rX168_28 hL
  have r168_29 := rX168_29 hL
  have r168_30 := rX168_30 hL
  have o169 := oX169 hL
  have o190 := oX190 hL
  have h50 := hX.1.1
  have z := hX.1.2.2.1 t ht
  obtain ⟨q, hq⟩ : ∃ q : Nat, X.2.2.2.2.2 t = (q : Int) := ⟨(X.2.2.2.2.2 t).toNat, by omega⟩
  have b0 : fwB (fun _ => 1000000) := fun x _ => by simp only; omega
  have fin : ∀ (J : Nat → Nat → Int) (a2 a3 a4 : Option tmV), (∀ a, a ≠ 190 → J a = I a) → (∀ x, x < X.1 → J 190 x = fwN X.1 X.2.2.1 X.2.2.2.1 X.2.2.2.2.2 (fun _ => 1000000) X.1 x) → tmW kX12_costOf 2 0 0 175 [some (tR 168), some (tI t), a2, a3, a4] [] (S, J, L) (fun q h' => q = some (tI (costX X (X.2.2.2.2.2 t))) ∧ ∃ J, h' = (S, J, L) ∧ ∀ a, a ≠ 190 → J a = I a) := fun J a2 a3 a4 hJ hc => by
    have kc := c_mclassOf (I := J) (L := L) hL t (by omega)
    have e : J 169 (202 + t) = (q : Int) := by rw [hJ 169 (by decide), (hM.2 t ht).2.2.2.2, hq]
    rw [e] at kc
    have ec : J 190 q = costX X (X.2.2.2.2.2 t) := by
      rw [hc q (by omega), hq]
      unfold costX fwOf
      rw [if_pos ⟨by omega, by omega⟩, Int.toNat_natCast]
    refine wa_aload_n dX12_costOf_175 rfl ?_
    refine wt_getR dX12_costOf_176 FX12_73 (by assumption) (by assumption) ?_
    refine wa_aload_n dX12_costOf_179 rfl ?_
    refine wa_iload_n dX12_costOf_180 rfl ?_
    refine wa_callVf (ci := 12) dX12_costOf_181 KX12_classOf LX12_95 ⟨_, _, rfl, by decide⟩ o168 (kc) (by decide) rfl rfl (Nat.le_of_ble_eq_true rfl) rfl rfl ?_
    refine wt_iald q dX12_costOf_184 (by assumption) rfl (by omega) ?_
    refine wa_ireturn dX12_costOf_185 rfl ?_
    exact ⟨by rw [ec], J, rfl, hJ⟩
  have md := mcost_fill (I := I) (L := L) hL hX hM (t0 := t) (fun q h' => q = some (tI (costX X (X.2.2.2.2.2 t))) ∧ ∃ J, h' = (S, J, L) ∧ ∀ a, a ≠ 190 → J a = I a) X.1 0 I (by omega) (fun _ _ => rfl) (fun x hx => by omega) (fun J a2 hJ hc => by
    have ot := mcost_outer (I := I) (L := L) hL hX hM (t0 := t) b0 (fun q h' => q = some (tI (costX X (X.2.2.2.2.2 t))) ∧ ∃ J, h' = (S, J, L) ∧ ∀ a, a ≠ 190 → J a = I a) X.1 0 J none none (by omega) hJ (fun x hx => hc x hx) fin
    refine wa_iconst dX12_costOf_26 ?_
    refine wa_istore_n dX12_costOf_27 (by decide) ?_
    exact ot
    )
  refine wa_iconst dX12_costOf_0 ?_
  refine wa_istore_n dX12_costOf_1 (by decide) ?_
  exact md
end S99k
