/-! ===== 99l: the reference: about ===== -/
set_option maxRecDepth 20000 in
theorem tmLeast_99 {P : Nat → Prop} [DecidablePred P] {g : Nat → Int} : ∀ (k t : Nat) (a b : Int), (a = b ∨ (a = 99 ∧ b = 9)) → (a ≠ b → ∃ y, t ≤ y ∧ y < t + k ∧ P y) → (∀ y, t ≤ y → y < t + k → 0 ≤ g y ∧ g y ≤ 9) → tmLeast P g k t a = tmLeast P g k t b := by
  intro k
  induction k with
  | zero =>
    intro t a b h1 h2 _
    rcases h1 with rfl | ⟨rfl, rfl⟩
    · rfl
    · obtain ⟨y, y1, y2, _⟩ := h2 (by decide)
      omega
  | succ k ih =>
    intro t a b h1 h2 h3
    have g9 := h3 t (by omega) (by omega)
    simp only [tmLeast]
    rcases h1 with rfl | ⟨rfl, rfl⟩
    · rfl
    · by_cases p : P t
      · rw [if_pos p, if_pos p, if_pos (by omega)]
        refine ih (t + 1) _ _ (Or.inl ?_) (fun z => absurd ?_ z) (fun y y1 y2 => h3 y (by omega) (by omega))
        · split <;> omega
        · split <;> omega
      · rw [if_neg p, if_neg p]
        refine ih (t + 1) _ _ (Or.inr ⟨rfl, rfl⟩) (fun z => ?_) (fun y y1 y2 => h3 y (by omega) (by omega))
        obtain ⟨y, y1, y2, y3⟩ := h2 z
        have : y ≠ t := fun e => p (e ▸ y3)
        exact ⟨y, by omega, by omega, y3⟩
section S99l
variable {S : tmS} {I : Nat → Nat → Int} {L : Nat → Nat → Int64}
set_option maxRecDepth 20000 in
theorem mabout_loop (hL : LX S) {X : TS} (hX : XOK X) (hM : MT I X) {t : Nat} (ht : t < X.1) {w : Int} (Q : Option tmV → tmH → Prop) : ∀ (j k a : Nat) (y : Int) (b : Nat) (l7 : Option tmV), k + j = X.1 → a ≤ k → b ≤ k → 0 ≤ y ∧ y ≤ 99 →
    (∀ (l7' : Option tmV) (y' : Int), y' = tmLeast (fun k => X.2.2.2.2.2 k = X.2.2.2.2.2 t) X.2.2.2.2.1 j k y → tmW kX12_about 3 0 0 217 [some (tR 168), some (tI t), some (tI w), some (tI ((a + tmCnt (fun k => X.2.2.2.2.2 k = X.2.2.2.2.2 t) j k : Nat) : Int)), some (tI y'), some (tI ((b + tmCnt (fun k => tmHome X.1 X.2.2.2.2.2 (X.2.2.1 k) = X.2.2.2.2.2 t ∨ tmHome X.1 X.2.2.2.2.2 (X.2.2.2.1 k) = X.2.2.2.2.2 t) j k : Nat) : Int)), some (tI X.1), l7'] [] (S, I, L) Q) →
    tmW kX12_about 3 0 0 47 [some (tR 168), some (tI t), some (tI w), some (tI a), some (tI y), some (tI b), some (tI k), l7] [] (S, I, L) Q := by
  intro j
  have o168 := oX168 hL
  have r168_0 := rX168_0 hL
  have r168_1 := rX168_1 hL
  have r168_3 := rX168_3 hL
  have r168_4 := rX168_4 hL
  have r168_5 := rX168_5 hL
  have r168_6 := rX168_6 hL
  have r168_7 := rX168_7 hL
  have r168_8 := rX168_8 hL
  have r168_11 := rX168_11 hL
  have r168_13 := rX168_13 hL
  have r168_17 := rX168_17 hL
  have r168_18 := rX168_18 hL
  have r168_19 := rX168_19 hL
  have r168_21 := rX168_21 hL
  have r168_22 := rX168_22 hL
  have r168_23 := rX168_23 hL
  have r168_24 := rX168_24 hL
  have r168_25 := rX168_25 hL
  have r168_26 := rX168_26 hL
  have r168_27 := rX168_27 hL
  have r168_28 := rX168_28 hL
  have r168_29 := rX168_29 hL
  have r168_30 := rX168_30 hL
  have o169 := oX169 hL
  have h50 := hX.1.1
  have j0 := hM.1
  have hho := hX.1.2.2.1
  have kc : ∀ p, p < X.1 → tmC yX12_classOf kX12_classOf 1 0 0 [tR 168, tI p] (S, I, L) (tmF (some (tI (X.2.2.2.2.2 p))) (S, I, L)) := fun p hp => by
    have kc := c_mclassOf (I := I) (L := L) hL p (by omega)
    rw [(hM.2 p hp).2.2.2.2] at kc
    exact kc
  have kct := kc t ht
  have bt := hho t ht
  induction j with
  | zero =>
    intro k a y b l7 hk ha hb hy kk
    have := kk l7 y rfl
    simp only [tmCnt, Nat.add_zero] at this
    obtain rfl : k = X.1 := by omega
    refine wa_iload dX12_about_47 rfl ?_
    refine wa_aload_n dX12_about_49 rfl ?_
    refine wt_getR dX12_about_50 FX12_7 (by assumption) (by assumption) ?_
    refine wa_iconst dX12_about_53 ?_
    refine wt_iald 0 dX12_about_54 (by assumption) rfl (by omega) ?_
    try first | rw [j0] | skip
    refine wa_icmp_ge 217 dX12_about_55 (by decide) (by exact ⟨by omega, by omega⟩) (by exact ⟨by omega, by omega⟩) (fun c_55 => ?_) (fun c_55 => ?_)
    · exact this
    · omega
  | succ j ih =>
    intro k a y b l7 hk ha hb hy kk
    have hkn : k < X.1 := by omega
    obtain ⟨m1, m2, m3, m4, m5⟩ := hM.2 k hkn
    have wf := hX.1.2.1 k hkn
    have g9 := hX.1.2.2.2 k hkn
    have kck := kc k hkn
    have bk := hho k hkn
    simp only [tmCnt, tmLeast] at kk
    have tp : ∀ p : Nat, p < X.1 → tmHome X.1 X.2.2.2.2.2 (p : Int) = X.2.2.2.2.2 p := fun p hp => by
      unfold tmHome
      rw [if_pos ⟨by omega, by omega⟩, Int.toNat_natCast]
    have tn : ∀ x : Int, x < 0 → ¬ tmHome X.1 X.2.2.2.2.2 x = X.2.2.2.2.2 t := fun x hx => by
      unfold tmHome
      rw [if_neg (by omega)]
      omega
    -- above
    have stC : ∀ (a' : Nat) (y' is : Int), a' ≤ k + 1 → 0 ≤ y' ∧ y' ≤ 99 → a' = a + (if X.2.2.2.2.2 k = X.2.2.2.2.2 t then 1 else 0) → y' = (if X.2.2.2.2.2 k = X.2.2.2.2.2 t then (if X.2.2.2.2.1 k < y then X.2.2.2.2.1 k else y) else y) → tmW kX12_about 3 0 0 131 [some (tR 168), some (tI t), some (tI w), some (tI a'), some (tI y'), some (tI b), some (tI k), some (tI is)] [] (S, I, L) Q := fun a' y' is ha' hy' ea ey => by
      have nx : ∀ bb : Nat, bb = (if tmHome X.1 X.2.2.2.2.2 (X.2.2.1 k) = X.2.2.2.2.2 t ∨ tmHome X.1 X.2.2.2.2.2 (X.2.2.2.1 k) = X.2.2.2.2.2 t then 1 else 0) → tmW kX12_about 3 0 0 47 [some (tR 168), some (tI t), some (tI w), some (tI a'), some (tI y'), some (tI (b + bb : Nat)), some (tI (k + 1 : Nat)), some (tI is)] [] (S, I, L) Q := fun bb ebb => by
        refine ih (k + 1) a' y' (b + bb) _ (by omega) ha' (by split at ebb <;> omega) hy' (fun l7' z ez => ?_)
        rw [ey] at ez
        have := kk l7' z ez
        rw [← ebb, ← Nat.add_assoc, ← Nat.add_assoc] at this
        rw [ea]
        exact this
      have stD : ¬ tmHome X.1 X.2.2.2.2.2 (X.2.2.1 k) = X.2.2.2.2.2 t → tmW kX12_about 3 0 0 168 [some (tR 168), some (tI t), some (tI w), some (tI a'), some (tI y'), some (tI b), some (tI k), some (tI is)] [tI b] (S, I, L) Q := fun n1 => by
        by_cases z : X.2.2.2.1 k < 0
        · have n2 := tn _ z
          have nx0 := nx 0 (by rw [if_neg (fun q => q.elim n1 n2)])
          refine wa_aload_n dX12_about_168 rfl ?_
          refine wt_getR dX12_about_169 FX12_7 (by assumption) (by assumption) ?_
          refine wa_bipush dX12_about_172 rfl ?_
          refine wa_iload dX12_about_174 rfl ?_
          refine wa_iadd dX12_about_176 ?_
          refine wt_iald (102 + k) dX12_about_177 (by assumption) (by omega) (by omega) ?_
          try first | rw [m3] | skip
          refine wa_if_lt 207 dX12_about_178 (by decide) (by exact ⟨by omega, by omega⟩) (fun c_178 => ?_) (fun c_178 => ?_)
          · refine wa_iconst dX12_about_207 ?_
            refine wa_iadd dX12_about_208 ?_
            refine wa_istore dX12_about_209 (by decide) ?_
            refine wa_iinc dX12_about_211 rfl (by decide) ?_
            refine wa_goto 47 dX12_about_214 (by decide) ?_
            exact nx0
          · omega
        · obtain ⟨p, hp⟩ : ∃ p : Nat, X.2.2.2.1 k = (p : Int) := ⟨(X.2.2.2.1 k).toNat, by omega⟩
          have kcp := kc p (by omega)
          have bp := hho p (by omega)
          have e2 := tp p (by omega)
          rw [hp, e2] at nx
          by_cases n2 : X.2.2.2.2.2 p = X.2.2.2.2.2 t
          · have nx1 := nx 1 (by rw [if_pos (Or.inr n2)])
            refine wa_aload_n dX12_about_168 rfl ?_
            refine wt_getR dX12_about_169 FX12_7 (by assumption) (by assumption) ?_
            refine wa_bipush dX12_about_172 rfl ?_
            refine wa_iload dX12_about_174 rfl ?_
            refine wa_iadd dX12_about_176 ?_
            refine wt_iald (102 + k) dX12_about_177 (by assumption) (by omega) (by omega) ?_
            try first | rw [m3, hp] | skip
            refine wa_if_lt 207 dX12_about_178 (by decide) (by exact ⟨by omega, by omega⟩) (fun c_178 => ?_) (fun c_178 => ?_)
            · omega
            · refine wa_aload_n dX12_about_181 rfl ?_
              refine wa_aload_n dX12_about_182 rfl ?_
              refine wt_getR dX12_about_183 FX12_7 (by assumption) (by assumption) ?_
              refine wa_bipush dX12_about_186 rfl ?_
              refine wa_iload dX12_about_188 rfl ?_
              refine wa_iadd dX12_about_190 ?_
              refine wt_iald (102 + k) dX12_about_191 (by assumption) (by omega) (by omega) ?_
              try first | rw [m3, hp] | skip
              refine wa_callVf (ci := 12) dX12_about_192 KX12_classOf LX12_95 ⟨_, _, rfl, by decide⟩ o168 (kcp) (by decide) rfl rfl (Nat.le_of_ble_eq_true rfl) rfl rfl ?_
              refine wa_aload_n dX12_about_195 rfl ?_
              refine wa_iload_n dX12_about_196 rfl ?_
              refine wa_callVf (ci := 12) dX12_about_197 KX12_classOf LX12_95 ⟨_, _, rfl, by decide⟩ o168 (kct) (by decide) rfl rfl (Nat.le_of_ble_eq_true rfl) rfl rfl ?_
              refine wa_icmp_ne 207 dX12_about_200 (by decide) (by exact ⟨by omega, by omega⟩) (by exact ⟨by omega, by omega⟩) (fun c_200 => ?_) (fun c_200 => ?_)
              · omega
              · refine wa_iconst dX12_about_203 ?_
                refine wa_goto 208 dX12_about_204 (by decide) ?_
                refine wa_iadd dX12_about_208 ?_
                refine wa_istore dX12_about_209 (by decide) ?_
                refine wa_iinc dX12_about_211 rfl (by decide) ?_
                refine wa_goto 47 dX12_about_214 (by decide) ?_
                exact nx1
          · have nx0 := nx 0 (by rw [if_neg (fun q => q.elim n1 n2)])
            refine wa_aload_n dX12_about_168 rfl ?_
            refine wt_getR dX12_about_169 FX12_7 (by assumption) (by assumption) ?_
            refine wa_bipush dX12_about_172 rfl ?_
            refine wa_iload dX12_about_174 rfl ?_
            refine wa_iadd dX12_about_176 ?_
            refine wt_iald (102 + k) dX12_about_177 (by assumption) (by omega) (by omega) ?_
            try first | rw [m3, hp] | skip
            refine wa_if_lt 207 dX12_about_178 (by decide) (by exact ⟨by omega, by omega⟩) (fun c_178 => ?_) (fun c_178 => ?_)
            · omega
            · refine wa_aload_n dX12_about_181 rfl ?_
              refine wa_aload_n dX12_about_182 rfl ?_
              refine wt_getR dX12_about_183 FX12_7 (by assumption) (by assumption) ?_
              refine wa_bipush dX12_about_186 rfl ?_
              refine wa_iload dX12_about_188 rfl ?_
              refine wa_iadd dX12_about_190 ?_
              refine wt_iald (102 + k) dX12_about_191 (by assumption) (by omega) (by omega) ?_
              try first | rw [m3, hp] | skip
              refine wa_callVf (ci := 12) dX12_about_192 KX12_classOf LX12_95 ⟨_, _, rfl, by decide⟩ o168 (kcp) (by decide) rfl rfl (Nat.le_of_ble_eq_true rfl) rfl rfl ?_
              refine wa_aload_n dX12_about_195 rfl ?_
              refine wa_iload_n dX12_about_196 rfl ?_
              refine wa_callVf (ci := 12) dX12_about_197 KX12_classOf LX12_95 ⟨_, _, rfl, by decide⟩ o168 (kct) (by decide) rfl rfl (Nat.le_of_ble_eq_true rfl) rfl rfl ?_
              refine wa_icmp_ne 207 dX12_about_200 (by decide) (by exact ⟨by omega, by omega⟩) (by exact ⟨by omega, by omega⟩) (fun c_200 => ?_) (fun c_200 => ?_)
              · refine wa_iconst dX12_about_207 ?_
                refine wa_iadd dX12_about_208 ?_
                refine wa_istore dX12_about_209 (by decide) ?_
                refine wa_iinc dX12_about_211 rfl (by decide) ?_
                refine wa_goto 47 dX12_about_214 (by decide) ?_
                exact nx0
              · omega
      by_cases z : X.2.2.1 k < 0
      · have nd := stD (tn _ z)
        refine wa_iload dX12_about_131 rfl ?_
        refine wa_aload_n dX12_about_133 rfl ?_
        refine wt_getR dX12_about_134 FX12_7 (by assumption) (by assumption) ?_
        refine wa_bipush dX12_about_137 rfl ?_
        refine wa_iload dX12_about_139 rfl ?_
        refine wa_iadd dX12_about_141 ?_
        refine wt_iald (52 + k) dX12_about_142 (by assumption) (by omega) (by omega) ?_
        try first | rw [m2] | skip
        refine wa_if_lt 168 dX12_about_143 (by decide) (by exact ⟨by omega, by omega⟩) (fun c_143 => ?_) (fun c_143 => ?_)
        · exact nd
        · omega
      · obtain ⟨p, hp⟩ : ∃ p : Nat, X.2.2.1 k = (p : Int) := ⟨(X.2.2.1 k).toNat, by omega⟩
        have kcp := kc p (by omega)
        have bp := hho p (by omega)
        have e2 := tp p (by omega)
        rw [hp, e2] at nx stD
        by_cases n2 : X.2.2.2.2.2 p = X.2.2.2.2.2 t
        · have nx1 := nx 1 (by rw [if_pos (Or.inl n2)])
          refine wa_iload dX12_about_131 rfl ?_
          refine wa_aload_n dX12_about_133 rfl ?_
          refine wt_getR dX12_about_134 FX12_7 (by assumption) (by assumption) ?_
          refine wa_bipush dX12_about_137 rfl ?_
          refine wa_iload dX12_about_139 rfl ?_
          refine wa_iadd dX12_about_141 ?_
          refine wt_iald (52 + k) dX12_about_142 (by assumption) (by omega) (by omega) ?_
          try first | rw [m2, hp] | skip
          refine wa_if_lt 168 dX12_about_143 (by decide) (by exact ⟨by omega, by omega⟩) (fun c_143 => ?_) (fun c_143 => ?_)
          · omega
          · refine wa_aload_n dX12_about_146 rfl ?_
            refine wa_aload_n dX12_about_147 rfl ?_
            refine wt_getR dX12_about_148 FX12_7 (by assumption) (by assumption) ?_
            refine wa_bipush dX12_about_151 rfl ?_
            refine wa_iload dX12_about_153 rfl ?_
            refine wa_iadd dX12_about_155 ?_
            refine wt_iald (52 + k) dX12_about_156 (by assumption) (by omega) (by omega) ?_
            try first | rw [m2, hp] | skip
            refine wa_callVf (ci := 12) dX12_about_157 KX12_classOf LX12_95 ⟨_, _, rfl, by decide⟩ o168 (kcp) (by decide) rfl rfl (Nat.le_of_ble_eq_true rfl) rfl rfl ?_
            refine wa_aload_n dX12_about_160 rfl ?_
            refine wa_iload_n dX12_about_161 rfl ?_
            refine wa_callVf (ci := 12) dX12_about_162 KX12_classOf LX12_95 ⟨_, _, rfl, by decide⟩ o168 (kct) (by decide) rfl rfl (Nat.le_of_ble_eq_true rfl) rfl rfl ?_
            refine wa_icmp_eq 203 dX12_about_165 (by decide) (by exact ⟨by omega, by omega⟩) (by exact ⟨by omega, by omega⟩) (fun c_165 => ?_) (fun c_165 => ?_)
            · refine wa_iconst dX12_about_203 ?_
              refine wa_goto 208 dX12_about_204 (by decide) ?_
              refine wa_iadd dX12_about_208 ?_
              refine wa_istore dX12_about_209 (by decide) ?_
              refine wa_iinc dX12_about_211 rfl (by decide) ?_
              refine wa_goto 47 dX12_about_214 (by decide) ?_
              exact nx1
            · omega
        · have nd := stD n2
          refine wa_iload dX12_about_131 rfl ?_
          refine wa_aload_n dX12_about_133 rfl ?_
          refine wt_getR dX12_about_134 FX12_7 (by assumption) (by assumption) ?_
          refine wa_bipush dX12_about_137 rfl ?_
          refine wa_iload dX12_about_139 rfl ?_
          refine wa_iadd dX12_about_141 ?_
          refine wt_iald (52 + k) dX12_about_142 (by assumption) (by omega) (by omega) ?_
          try first | rw [m2, hp] | skip
          refine wa_if_lt 168 dX12_about_143 (by decide) (by exact ⟨by omega, by omega⟩) (fun c_143 => ?_) (fun c_143 => ?_)
          · omega
          · refine wa_aload_n dX12_about_146 rfl ?_
            refine wa_aload_n dX12_about_147 rfl ?_
            refine wt_getR dX12_about_148 FX12_7 (by assumption) (by assumption) ?_
            refine wa_bipush dX12_about_151 rfl ?_
            refine wa_iload dX12_about_153 rfl ?_
            refine wa_iadd dX12_about_155 ?_
            refine wt_iald (52 + k) dX12_about_156 (by assumption) (by omega) (by omega) ?_
            try first | rw [m2, hp] | skip
            refine wa_callVf (ci := 12) dX12_about_157 KX12_classOf LX12_95 ⟨_, _, rfl, by decide⟩ o168 (kcp) (by decide) rfl rfl (Nat.le_of_ble_eq_true rfl) rfl rfl ?_
            refine wa_aload_n dX12_about_160 rfl ?_
            refine wa_iload_n dX12_about_161 rfl ?_
            refine wa_callVf (ci := 12) dX12_about_162 KX12_classOf LX12_95 ⟨_, _, rfl, by decide⟩ o168 (kct) (by decide) rfl rfl (Nat.le_of_ble_eq_true rfl) rfl rfl ?_
            refine wa_icmp_eq 203 dX12_about_165 (by decide) (by exact ⟨by omega, by omega⟩) (by exact ⟨by omega, by omega⟩) (fun c_165 => ?_) (fun c_165 => ?_)
            · omega
            · exact nd
    by_cases c : X.2.2.2.2.2 k = X.2.2.2.2.2 t
    · by_cases d : X.2.2.2.2.1 k < y
      · have nx := stC (a + 1) (X.2.2.2.2.1 k) 1 (by omega) (by omega) (by rw [if_pos c]) (by rw [if_pos c, if_pos d])
        refine wa_iload dX12_about_47 rfl ?_
        refine wa_aload_n dX12_about_49 rfl ?_
        refine wt_getR dX12_about_50 FX12_7 (by assumption) (by assumption) ?_
        refine wa_iconst dX12_about_53 ?_
        refine wt_iald 0 dX12_about_54 (by assumption) rfl (by omega) ?_
        try first | rw [j0] | rw [m4] | skip
        refine wa_icmp_ge 217 dX12_about_55 (by decide) (by exact ⟨by omega, by omega⟩) (by exact ⟨by omega, by omega⟩) (fun c_55 => ?_) (fun c_55 => ?_)
        · omega
        · refine wa_aload_n dX12_about_58 rfl ?_
          refine wa_iload dX12_about_59 rfl ?_
          refine wa_callVf (ci := 12) dX12_about_61 KX12_classOf LX12_95 ⟨_, _, rfl, by decide⟩ o168 (kck) (by decide) rfl rfl (Nat.le_of_ble_eq_true rfl) rfl rfl ?_
          refine wa_aload_n dX12_about_64 rfl ?_
          refine wa_iload_n dX12_about_65 rfl ?_
          refine wa_callVf (ci := 12) dX12_about_66 KX12_classOf LX12_95 ⟨_, _, rfl, by decide⟩ o168 (kct) (by decide) rfl rfl (Nat.le_of_ble_eq_true rfl) rfl rfl ?_
          refine wa_icmp_ne 76 dX12_about_69 (by decide) (by exact ⟨by omega, by omega⟩) (by exact ⟨by omega, by omega⟩) (fun c_69 => ?_) (fun c_69 => ?_)
          · omega
          · refine wa_iconst dX12_about_72 ?_
            refine wa_goto 77 dX12_about_73 (by decide) ?_
            refine wa_istore dX12_about_77 (by decide) ?_
            refine wa_iload_n dX12_about_79 rfl ?_
            refine wa_iload dX12_about_80 rfl ?_
            refine wa_if_eq 89 dX12_about_82 (by decide) (by exact ⟨by omega, by omega⟩) (fun c_82 => ?_) (fun c_82 => ?_)
            · omega
            · refine wa_iconst dX12_about_85 ?_
              refine wa_goto 90 dX12_about_86 (by decide) ?_
              refine wa_iadd dX12_about_90 ?_
              refine wa_istore_n dX12_about_91 (by decide) ?_
              refine wa_iload dX12_about_92 rfl ?_
              refine wa_if_eq 127 dX12_about_94 (by decide) (by exact ⟨by omega, by omega⟩) (fun c_94 => ?_) (fun c_94 => ?_)
              · omega
              · refine wa_aload_n dX12_about_97 rfl ?_
                refine wt_getR dX12_about_98 FX12_7 (by assumption) (by assumption) ?_
                refine wa_sipush dX12_about_101 rfl ?_
                refine wa_iload dX12_about_104 rfl ?_
                refine wa_iadd dX12_about_106 ?_
                refine wt_iald (152 + k) dX12_about_107 (by assumption) (by omega) (by omega) ?_
                try first | rw [j0] | rw [m4] | skip
                refine wa_iload dX12_about_108 rfl ?_
                refine wa_icmp_ge 127 dX12_about_110 (by decide) (by exact ⟨by omega, by omega⟩) (by exact ⟨by omega, by omega⟩) (fun c_110 => ?_) (fun c_110 => ?_)
                · omega
                · refine wa_aload_n dX12_about_113 rfl ?_
                  refine wt_getR dX12_about_114 FX12_7 (by assumption) (by assumption) ?_
                  refine wa_sipush dX12_about_117 rfl ?_
                  refine wa_iload dX12_about_120 rfl ?_
                  refine wa_iadd dX12_about_122 ?_
                  refine wt_iald (152 + k) dX12_about_123 (by assumption) (by omega) (by omega) ?_
                  try first | rw [j0] | rw [m4] | skip
                  refine wa_goto 129 dX12_about_124 (by decide) ?_
                  refine wa_istore dX12_about_129 (by decide) ?_
                  exact nx
      · have nx := stC (a + 1) y 1 (by omega) (by omega) (by rw [if_pos c]) (by rw [if_pos c, if_neg d])
        refine wa_iload dX12_about_47 rfl ?_
        refine wa_aload_n dX12_about_49 rfl ?_
        refine wt_getR dX12_about_50 FX12_7 (by assumption) (by assumption) ?_
        refine wa_iconst dX12_about_53 ?_
        refine wt_iald 0 dX12_about_54 (by assumption) rfl (by omega) ?_
        try first | rw [j0] | rw [m4] | skip
        refine wa_icmp_ge 217 dX12_about_55 (by decide) (by exact ⟨by omega, by omega⟩) (by exact ⟨by omega, by omega⟩) (fun c_55 => ?_) (fun c_55 => ?_)
        · omega
        · refine wa_aload_n dX12_about_58 rfl ?_
          refine wa_iload dX12_about_59 rfl ?_
          refine wa_callVf (ci := 12) dX12_about_61 KX12_classOf LX12_95 ⟨_, _, rfl, by decide⟩ o168 (kck) (by decide) rfl rfl (Nat.le_of_ble_eq_true rfl) rfl rfl ?_
          refine wa_aload_n dX12_about_64 rfl ?_
          refine wa_iload_n dX12_about_65 rfl ?_
          refine wa_callVf (ci := 12) dX12_about_66 KX12_classOf LX12_95 ⟨_, _, rfl, by decide⟩ o168 (kct) (by decide) rfl rfl (Nat.le_of_ble_eq_true rfl) rfl rfl ?_
          refine wa_icmp_ne 76 dX12_about_69 (by decide) (by exact ⟨by omega, by omega⟩) (by exact ⟨by omega, by omega⟩) (fun c_69 => ?_) (fun c_69 => ?_)
          · omega
          · refine wa_iconst dX12_about_72 ?_
            refine wa_goto 77 dX12_about_73 (by decide) ?_
            refine wa_istore dX12_about_77 (by decide) ?_
            refine wa_iload_n dX12_about_79 rfl ?_
            refine wa_iload dX12_about_80 rfl ?_
            refine wa_if_eq 89 dX12_about_82 (by decide) (by exact ⟨by omega, by omega⟩) (fun c_82 => ?_) (fun c_82 => ?_)
            · omega
            · refine wa_iconst dX12_about_85 ?_
              refine wa_goto 90 dX12_about_86 (by decide) ?_
              refine wa_iadd dX12_about_90 ?_
              refine wa_istore_n dX12_about_91 (by decide) ?_
              refine wa_iload dX12_about_92 rfl ?_
              refine wa_if_eq 127 dX12_about_94 (by decide) (by exact ⟨by omega, by omega⟩) (fun c_94 => ?_) (fun c_94 => ?_)
              · omega
              · refine wa_aload_n dX12_about_97 rfl ?_
                refine wt_getR dX12_about_98 FX12_7 (by assumption) (by assumption) ?_
                refine wa_sipush dX12_about_101 rfl ?_
                refine wa_iload dX12_about_104 rfl ?_
                refine wa_iadd dX12_about_106 ?_
                refine wt_iald (152 + k) dX12_about_107 (by assumption) (by omega) (by omega) ?_
                try first | rw [j0] | rw [m4] | skip
                refine wa_iload dX12_about_108 rfl ?_
                refine wa_icmp_ge 127 dX12_about_110 (by decide) (by exact ⟨by omega, by omega⟩) (by exact ⟨by omega, by omega⟩) (fun c_110 => ?_) (fun c_110 => ?_)
                · refine wa_iload dX12_about_127 rfl ?_
                  refine wa_istore dX12_about_129 (by decide) ?_
                  exact nx
                · omega
    · have nx := stC a y 0 (by omega) (by omega) (by rw [if_neg c]; rfl) (by rw [if_neg c])
      refine wa_iload dX12_about_47 rfl ?_
      refine wa_aload_n dX12_about_49 rfl ?_
      refine wt_getR dX12_about_50 FX12_7 (by assumption) (by assumption) ?_
      refine wa_iconst dX12_about_53 ?_
      refine wt_iald 0 dX12_about_54 (by assumption) rfl (by omega) ?_
      try first | rw [j0] | rw [m4] | skip
      refine wa_icmp_ge 217 dX12_about_55 (by decide) (by exact ⟨by omega, by omega⟩) (by exact ⟨by omega, by omega⟩) (fun c_55 => ?_) (fun c_55 => ?_)
      · omega
      · refine wa_aload_n dX12_about_58 rfl ?_
        refine wa_iload dX12_about_59 rfl ?_
        refine wa_callVf (ci := 12) dX12_about_61 KX12_classOf LX12_95 ⟨_, _, rfl, by decide⟩ o168 (kck) (by decide) rfl rfl (Nat.le_of_ble_eq_true rfl) rfl rfl ?_
        refine wa_aload_n dX12_about_64 rfl ?_
        refine wa_iload_n dX12_about_65 rfl ?_
        refine wa_callVf (ci := 12) dX12_about_66 KX12_classOf LX12_95 ⟨_, _, rfl, by decide⟩ o168 (kct) (by decide) rfl rfl (Nat.le_of_ble_eq_true rfl) rfl rfl ?_
        refine wa_icmp_ne 76 dX12_about_69 (by decide) (by exact ⟨by omega, by omega⟩) (by exact ⟨by omega, by omega⟩) (fun c_69 => ?_) (fun c_69 => ?_)
        · refine wa_iconst dX12_about_76 ?_
          refine wa_istore dX12_about_77 (by decide) ?_
          refine wa_iload_n dX12_about_79 rfl ?_
          refine wa_iload dX12_about_80 rfl ?_
          refine wa_if_eq 89 dX12_about_82 (by decide) (by exact ⟨by omega, by omega⟩) (fun c_82 => ?_) (fun c_82 => ?_)
          · refine wa_iconst dX12_about_89 ?_
            refine wa_iadd dX12_about_90 ?_
            refine wa_istore_n dX12_about_91 (by decide) ?_
            refine wa_iload dX12_about_92 rfl ?_
            refine wa_if_eq 127 dX12_about_94 (by decide) (by exact ⟨by omega, by omega⟩) (fun c_94 => ?_) (fun c_94 => ?_)
            · refine wa_iload dX12_about_127 rfl ?_
              refine wa_istore dX12_about_129 (by decide) ?_
              exact nx
            · omega
          · omega
        · omega
set_option maxRecDepth 20000 in
theorem c_mabout {m : Nat} {A : AS} (hL : LX S) (ha : AOK m A) (hm : m ≤ 1000) (h : MR I A) (t w : Int) (ht : inR t) (hw : inR w) : tmC yX12_about kX12_about 3 0 0 [tR 168, tI t, tI w] (S, I, L) (MPost S I L (tI (spAbout A t w).1) (spAbout A t w).2) := by
  refine tmC.mk (lv := [some (tR 168), some (tI t), some (tI w), none, none, none, none, none]) 5 ⟨rfl, by decide +kernel, by decide⟩ rfl rfl ?_
  have o168 := oX168 hL
  have r168_0 := rX168_0 hL
  have r168_1 := rX168_1 hL
  have r168_3 := rX168_3 hL
  have r168_4 := rX168_4 hL
  have r168_5 := rX168_5 hL
  have r168_6 := rX168_6 hL
  have r168_7 := rX168_7 hL
  have r168_8 := rX168_8 hL
  have r168_11 := rX168_11 hL
  have r168_13 := rX168_13 hL
  have r168_17 := rX168_17 hL
  have r168_18 := rX168_18 hL
  have r168_19 := rX168_19 hL
  have r168_21 := rX168_21 hL
  have r168_22 := rX168_22 hL
  have r168_23 := rX168_23 hL
  have r168_24 := rX168_24 hL
  have r168_25 := rX168_25 hL
  have r168_26 := rX168_26 hL
  have r168_27 := rX168_27 hL
  have r168_28 := rX168_28 hL
  have r168_29 := rX168_29 hL
  have r168_30 := rX168_30 hL
  have hrf := c_mrf0 (L := L) hL ha hm h
  have h50 := ha.1.1.1.1
  have k1 := c_misTerm (I := I) (L := L) hL h.mt.1 h50 t ht
  have k2 := c_min (h := (S, I, L)) w 0 3 hw ⟨by decide, by decide⟩ ⟨by decide, by decide⟩
  by_cases c1 : isT A t
  · rw [if_pos c1] at k1
    obtain ⟨tt, rfl⟩ : ∃ tt : Nat, t = (tt : Int) := ⟨t.toNat, by have := c1.1; omega⟩
    have c1' := c1.2
    by_cases c2 : 0 ≤ w ∧ w ≤ 3
    · rw [if_pos c2] at k2
      have e : spAbout A tt w = (aboutX A.1.1 tt w, A) := by unfold spAbout; rw [if_pos ⟨c1, c2⟩]; rfl
      rw [e]
      by_cases w2 : w = 2
      · subst w2
        have kk := c_mcostOf (I := I) (L := L) hL ha.1.1 h.mt (t := tt) (by omega)
        refine wa_aload_n dX12_about_0 rfl ?_
        refine wa_iload_n dX12_about_1 rfl ?_
        refine wa_callVf (ci := 12) dX12_about_2 KX12_isTerm LX12_109 ⟨_, _, rfl, by decide⟩ o168 (k1) (by decide) rfl rfl (Nat.le_of_ble_eq_true rfl) rfl rfl ?_
        refine wa_if_eq 17 dX12_about_5 (by decide) (by exact ⟨by omega, by omega⟩) (fun c_5 => ?_) (fun c_5 => ?_)
        · omega
        · refine wa_iload_n dX12_about_8 rfl ?_
          refine wa_iconst dX12_about_9 ?_
          refine wa_iconst dX12_about_10 ?_
          refine wa_callSf dX12_about_11 KX12_in LX12_79 (k2) (by decide) rfl rfl (Nat.le_of_ble_eq_true rfl) rfl rfl ?_
          refine wa_if_ne 24 dX12_about_14 (by decide) (by exact ⟨by omega, by omega⟩) (fun c_14 => ?_) (fun c_14 => ?_)
          · refine wa_iload_n dX12_about_24 rfl ?_
            refine wa_iconst dX12_about_25 ?_
            refine wa_icmp_ne 35 dX12_about_26 (by decide) (by exact ⟨by omega, by omega⟩) (by exact ⟨by omega, by omega⟩) (fun c_26 => ?_) (fun c_26 => ?_)
            · omega
            · refine wa_aload_n dX12_about_29 rfl ?_
              refine wa_iload_n dX12_about_30 rfl ?_
              refine wa_callV (ci := 12) dX12_about_31 KX12_costOf LX12_130 ⟨_, _, rfl, by decide⟩ o168 (kk) (by decide) rfl (Nat.le_of_ble_eq_true rfl) rfl rfl (fun r h' hq => ?_)
              obtain ⟨rfl, J, rfl, hJ⟩ := hq
              refine wa_ireturn dX12_about_34 rfl ?_
              exact h.scp (fun a ha => hJ a (by omega)) rfl
          · omega
      · have lp := mabout_loop (I := I) (L := L) hL ha.1.1 h.mt (t := tt) (by omega) (w := w) (MPost S I L (tI (aboutX A.1.1 tt w)) A) A.1.1.1 0 0 99 0 none (by omega) (by omega) (by omega) (by omega) (fun l7 y' ey => by
          rw [tmLeast_99 (P := fun k => A.1.1.2.2.2.2.2 k = A.1.1.2.2.2.2.2 tt) A.1.1.1 0 99 9 (Or.inr ⟨rfl, rfl⟩) (fun _ => ⟨tt, by omega, by omega, rfl⟩) (fun y _ hy => ha.1.1.1.2.2.2 y (by omega))] at ey
          have w0 : w = 0 ∨ w = 1 ∨ w = 3 := by omega
          rcases w0 with rfl | rfl | rfl
          · have ex : aboutX A.1.1 tt 0 = ((tmCnt (fun k => A.1.1.2.2.2.2.2 k = A.1.1.2.2.2.2.2 tt) A.1.1.1 0 : Nat) : Int) := by unfold aboutX; rw [if_pos rfl]
            refine wa_iload_n dX12_about_217 rfl ?_
            refine wa_if_ne 225 dX12_about_218 (by decide) (by exact ⟨by omega, by omega⟩) (fun c_218 => ?_) (fun c_218 => ?_)
            · omega
            · refine wa_iload_n dX12_about_221 rfl ?_
              refine wa_goto 237 dX12_about_222 (by decide) ?_
              refine wa_ireturn dX12_about_237 rfl ?_
              exact h.stay (by rw [ex, Nat.zero_add]) rfl
          · have ex : aboutX A.1.1 tt 1 = y' := by unfold aboutX; rw [if_neg (by decide), if_pos rfl, ey]
            refine wa_iload_n dX12_about_217 rfl ?_
            refine wa_if_ne 225 dX12_about_218 (by decide) (by exact ⟨by omega, by omega⟩) (fun c_218 => ?_) (fun c_218 => ?_)
            · refine wa_iload_n dX12_about_225 rfl ?_
              refine wa_iconst dX12_about_226 ?_
              refine wa_icmp_ne 235 dX12_about_227 (by decide) (by exact ⟨by omega, by omega⟩) (by exact ⟨by omega, by omega⟩) (fun c_227 => ?_) (fun c_227 => ?_)
              · omega
              · refine wa_iload dX12_about_230 rfl ?_
                refine wa_goto 237 dX12_about_232 (by decide) ?_
                refine wa_ireturn dX12_about_237 rfl ?_
                exact h.stay (by rw [ex]) rfl
            · omega
          · have ex : aboutX A.1.1 tt 3 = ((tmCnt (fun k => tmHome A.1.1.1 A.1.1.2.2.2.2.2 (A.1.1.2.2.1 k) = A.1.1.2.2.2.2.2 tt ∨ tmHome A.1.1.1 A.1.1.2.2.2.2.2 (A.1.1.2.2.2.1 k) = A.1.1.2.2.2.2.2 tt) A.1.1.1 0 : Nat) : Int) := by unfold aboutX; rw [if_neg (by decide), if_neg (by decide), if_neg (by decide)]
            refine wa_iload_n dX12_about_217 rfl ?_
            refine wa_if_ne 225 dX12_about_218 (by decide) (by exact ⟨by omega, by omega⟩) (fun c_218 => ?_) (fun c_218 => ?_)
            · refine wa_iload_n dX12_about_225 rfl ?_
              refine wa_iconst dX12_about_226 ?_
              refine wa_icmp_ne 235 dX12_about_227 (by decide) (by exact ⟨by omega, by omega⟩) (by exact ⟨by omega, by omega⟩) (fun c_227 => ?_) (fun c_227 => ?_)
              · refine wa_iload dX12_about_235 rfl ?_
                refine wa_ireturn dX12_about_237 rfl ?_
                exact h.stay (by rw [ex, Nat.zero_add]) rfl
              · omega
            · omega
          )
        refine wa_aload_n dX12_about_0 rfl ?_
        refine wa_iload_n dX12_about_1 rfl ?_
        refine wa_callVf (ci := 12) dX12_about_2 KX12_isTerm LX12_109 ⟨_, _, rfl, by decide⟩ o168 (k1) (by decide) rfl rfl (Nat.le_of_ble_eq_true rfl) rfl rfl ?_
        refine wa_if_eq 17 dX12_about_5 (by decide) (by exact ⟨by omega, by omega⟩) (fun c_5 => ?_) (fun c_5 => ?_)
        · omega
        · refine wa_iload_n dX12_about_8 rfl ?_
          refine wa_iconst dX12_about_9 ?_
          refine wa_iconst dX12_about_10 ?_
          refine wa_callSf dX12_about_11 KX12_in LX12_79 (k2) (by decide) rfl rfl (Nat.le_of_ble_eq_true rfl) rfl rfl ?_
          refine wa_if_ne 24 dX12_about_14 (by decide) (by exact ⟨by omega, by omega⟩) (fun c_14 => ?_) (fun c_14 => ?_)
          · refine wa_iload_n dX12_about_24 rfl ?_
            refine wa_iconst dX12_about_25 ?_
            refine wa_icmp_ne 35 dX12_about_26 (by decide) (by exact ⟨by omega, by omega⟩) (by exact ⟨by omega, by omega⟩) (fun c_26 => ?_) (fun c_26 => ?_)
            · refine wa_iconst dX12_about_35 ?_
              refine wa_istore_n dX12_about_36 (by decide) ?_
              refine wa_bipush dX12_about_37 rfl ?_
              refine wa_istore dX12_about_39 (by decide) ?_
              refine wa_iconst dX12_about_41 ?_
              refine wa_istore dX12_about_42 (by decide) ?_
              refine wa_iconst dX12_about_44 ?_
              refine wa_istore dX12_about_45 (by decide) ?_
              exact lp
            · omega
          · omega
    · rw [if_neg c2] at k2
      have e : spAbout A tt w = (-2, aRf A 0) := by unfold spAbout; rw [if_neg (fun z => c2 z.2)]
      rw [e]
      refine wa_aload_n dX12_about_0 rfl ?_
      refine wa_iload_n dX12_about_1 rfl ?_
      refine wa_callVf (ci := 12) dX12_about_2 KX12_isTerm LX12_109 ⟨_, _, rfl, by decide⟩ o168 (k1) (by decide) rfl rfl (Nat.le_of_ble_eq_true rfl) rfl rfl ?_
      refine wa_if_eq 17 dX12_about_5 (by decide) (by exact ⟨by omega, by omega⟩) (fun c_5 => ?_) (fun c_5 => ?_)
      · omega
      · refine wa_iload_n dX12_about_8 rfl ?_
        refine wa_iconst dX12_about_9 ?_
        refine wa_iconst dX12_about_10 ?_
        refine wa_callSf dX12_about_11 KX12_in LX12_79 (k2) (by decide) rfl rfl (Nat.le_of_ble_eq_true rfl) rfl rfl ?_
        refine wa_if_ne 24 dX12_about_14 (by decide) (by exact ⟨by omega, by omega⟩) (fun c_14 => ?_) (fun c_14 => ?_)
        · omega
        · refine wa_aload_n dX12_about_17 rfl ?_
          refine wa_bipush dX12_about_18 rfl ?_
          refine wa_callV (ci := 12) dX12_about_20 KX12_refuses LX12_113 ⟨_, _, rfl, by decide⟩ o168 (hrf) (by decide) rfl (Nat.le_of_ble_eq_true rfl) rfl rfl (fun r h' hq => ?_)
          obtain ⟨rfl, hq⟩ := hq
          refine wa_ireturn dX12_about_23 rfl ?_
          exact ⟨rfl, hq⟩
  · rw [if_neg c1] at k1
    have e : spAbout A t w = (-2, aRf A 0) := by unfold spAbout; rw [if_neg (fun z => c1 z.1)]
    rw [e]
    refine wa_aload_n dX12_about_0 rfl ?_
    refine wa_iload_n dX12_about_1 rfl ?_
    refine wa_callVf (ci := 12) dX12_about_2 KX12_isTerm LX12_109 ⟨_, _, rfl, by decide⟩ o168 (k1) (by decide) rfl rfl (Nat.le_of_ble_eq_true rfl) rfl rfl ?_
    refine wa_if_eq 17 dX12_about_5 (by decide) (by exact ⟨by omega, by omega⟩) (fun c_5 => ?_) (fun c_5 => ?_)
    · refine wa_aload_n dX12_about_17 rfl ?_
      refine wa_bipush dX12_about_18 rfl ?_
      refine wa_callV (ci := 12) dX12_about_20 KX12_refuses LX12_113 ⟨_, _, rfl, by decide⟩ o168 (hrf) (by decide) rfl (Nat.le_of_ble_eq_true rfl) rfl rfl (fun r h' hq => ?_)
      obtain ⟨rfl, hq⟩ := hq
      refine wa_ireturn dX12_about_23 rfl ?_
      exact ⟨rfl, hq⟩
    · omega
end S99l
