/-! ===== 99zi: the reference: reads ===== -/
set_option maxRecDepth 20000 in
theorem sentW_stop {b : Nat → Int} {n p : Nat} {X : TS} {rl : RuL} (hn : n ≤ 120) (hp : p ≤ n) (h : (sentW b n p X rl).1 = false) : skp b n (sentW b n p X rl).2.1 = (sentW b n p X rl).2.1 := by
  have st : ∀ may q, q ≤ n → (sideW b n may q).1 = false → skp b n (sideW b n may q).2.1 = (sideW b n may q).2.1 := fun may q hq z => sdW_stop 121 [] [] q hq (by omega) z
  have lt : ∀ q, ∀ c : Int, 0 ≤ c → byt b n q = c → q < n := fun q c hc z => by
    by_cases y : q < n
    · exact y
    · unfold byt at z; rw [if_neg y] at z; omega
  unfold sentW at h ⊢
  by_cases c1 : (sideW b n 7 p).1 = false
  · rw [if_pos c1]; exact st 7 p hp c1
  · rw [if_neg c1] at h ⊢
    by_cases c2 : byt b n (skp b n (sideW b n 7 p).2.1) = 62
    · rw [if_pos c2] at h ⊢
      have q2 := lt _ 62 (by decide) c2
      by_cases c3 : ((sideW b n 7 p).2.2.length = 1 ∧ letW (sideW b n 7 p).2.2 ≠ 0) ∨ 6 ≤ rl.length
      · rw [if_pos c3]; exact skp_id
      · rw [if_neg c3] at h ⊢
        by_cases c4 : (sideW b n (letW (sideW b n 7 p).2.2) (skp b n (sideW b n 7 p).2.1 + 1)).1 = false
        · rw [if_pos c4]; exact st _ _ (by omega) c4
        · rw [if_neg c4] at h ⊢
          by_cases c5 : tkB b n (sideW b n (letW (sideW b n 7 p).2.2) (skp b n (sideW b n 7 p).2.1 + 1)).2.1 59
          · rw [if_pos c5] at h; cases h
          · rw [if_neg c5]
            show skp b n (tkP b n _ 59) = tkP b n _ 59
            rw [tkP_no c5]; exact skp_id
    · rw [if_neg c2] at h ⊢
      by_cases c3 : letW (sideW b n 7 p).2.2 ≠ 0
      · rw [if_pos c3]; exact skp_id
      · rw [if_neg c3] at h ⊢
        by_cases c4 : byt b n (skp b n (sideW b n 7 p).2.1) = 61
        · rw [if_pos c4] at h ⊢
          have q4 := lt _ 61 (by decide) c4
          by_cases c5 : (sideW b n 7 (skp b n (sideW b n 7 p).2.1 + 1)).1 = false
          · rw [if_pos c5]; exact st _ _ (by omega) c5
          · rw [if_neg c5] at h ⊢
            by_cases c6 : byt b n (skp b n (sideW b n 7 (skp b n (sideW b n 7 p).2.1 + 1)).2.1) = 59 ∧ letW (sideW b n 7 (skp b n (sideW b n 7 p).2.1 + 1)).2.2 = 0
            · rw [if_pos c6] at h ⊢
              cases ht : trmW X (sideW b n 7 p).2.2 (some (sideW b n 7 (skp b n (sideW b n 7 p).2.1 + 1)).2.2) with
              | none => exact skp_id
              | some Y => rw [ht] at h; cases h
            · rw [if_neg c6]; exact skp_id
        · rw [if_neg c4] at h ⊢
          by_cases c5 : byt b n (skp b n (sideW b n 7 p).2.1) = 59
          · rw [if_pos c5] at h ⊢
            cases ht : trmW X (sideW b n 7 p).2.2 none with
            | none => exact skp_id
            | some Y => rw [ht] at h; cases h
          · rw [if_neg c5]; exact skp_id
-- at the end no sentence begins
set_option maxRecDepth 20000 in
theorem sdW_end {b : Nat → Int} {n may : Nat} (k : Nat) (nd : List Nat) (w : List Int) : sdW b n may (k + 1) nd w n = (false, n, w) := by
  have e : skp b n n = n := skp_end (Nat.le_refl _)
  have eb : byt b n n = -1 := by unfold byt; rw [if_neg (by omega)]
  simp only [sdW]
  rw [e, eb, if_pos (Or.inl (by decide))]
set_option maxRecDepth 20000 in
theorem sentW_end {b : Nat → Int} {n : Nat} {X : TS} {rl : RuL} : sentW b n n X rl = (false, n, X, rl) := by
  have es : sideW b n 7 n = (false, n, []) := sdW_end 120 [] []
  unfold sentW
  rw [if_pos (show (sideW b n 7 n).1 = false by rw [es]), es]
section S99zi
variable {S : tmS} {L : Nat → Nat → Int64}
set_option maxRecDepth 20000 in
theorem rd_cp1 (hL : LX S) {I : Nat → Nat → Int} {n f : Int} {a4 : Option tmV} (Q : Option tmV → tmH → Prop) (kk : ∀ J' : Nat → Nat → Int, (∀ a, a ≠ 171 → J' a = I a) → (∀ x, x < 984 → J' 171 x = I 169 x) → tmW kX12_reads 6 0 0 27 [some (tR 168), some (tI (984 : Nat)), none, none, none] [] (S, J', L) Q) : ∀ (j k : Nat) (J : Nat → Nat → Int), k + j = 984 → (∀ a, a ≠ 171 → J a = I a) → (∀ x, x < k → J 171 x = I 169 x) → tmW kX12_reads 6 0 0 2 [some (tR 168), some (tI k), none, none, none] [] (S, J, L) Q := by
  intro j
  have o168 := oX168 hL
  have r168_0 := rX168_0 hL
  have r168_1 := rX168_1 hL
  have r168_3 := rX168_3 hL
  have r168_4 := rX168_4 hL
  have r168_5 := rX168_5 hL
  have r168_6 := rX168_6 hL
  have r168_7 := rX168_7 hL
  have r168_8 := rX168_8 hL
  have r168_11 := rX168_11 hL
  have r168_13 := rX168_13 hL
  have r168_17 := rX168_17 hL
  have r168_18 := rX168_18 hL
  have r168_19 := rX168_19 hL
  have r168_21 := rX168_21 hL
  have r168_22 := rX168_22 hL
  have r168_23 := rX168_23 hL
  have r168_24 := rX168_24 hL
  have r168_25 := rX168_25 hL
  have r168_26 := rX168_26 hL
  have r168_27 := rX168_27 hL
  have r168_28 := rX168_28 hL
  have r168_29 := rX168_29 hL
  have r168_30 := rX168_30 hL
  have o171 := oX171 hL
  have o169 := oX169 hL
  induction j with
  | zero =>
    intro k J hk h1 h2
    obtain rfl : k = 984 := by omega
    have := kk J h1 h2
    refine wa_iload_n dX12_reads_2 rfl ?_
    refine wa_sipush dX12_reads_3 rfl ?_
    refine wa_icmp_ge 27 dX12_reads_6 (by decide) (by exact ⟨by omega, by omega⟩) (by exact ⟨by omega, by omega⟩) (fun c_6 => ?_) (fun c_6 => ?_)
    · exact this
    · omega
  | succ j ih =>
    intro k J hk h1 h2
    have nx := ih (k + 1) (va_up J 171 (va_up (J 171) k (J 169 k))) (by omega) (fun a ha => by rw [vup_n ha]; exact h1 a ha) (fun x hx => by
      rw [vup_s]
      by_cases z : x = k
      · subst z; rw [vup_s, h1 169 (by decide)]
      · rw [vup_n z]; exact h2 x (by omega))
    refine wt_ir (fun hI => ?_)
    refine wa_iload_n dX12_reads_2 rfl ?_
    refine wa_sipush dX12_reads_3 rfl ?_
    refine wa_icmp_ge 27 dX12_reads_6 (by decide) (by first | exact hI _ _ | exact ⟨by omega, by omega⟩) (by first | exact hI _ _ | exact ⟨by omega, by omega⟩) (fun c_6 => ?_) (fun c_6 => ?_)
    · omega
    · refine wa_aload_n dX12_reads_9 rfl ?_
      refine wt_getR dX12_reads_10 FX12_16 (by assumption) (by assumption) ?_
      refine wa_iload_n dX12_reads_13 rfl ?_
      refine wa_aload_n dX12_reads_14 rfl ?_
      refine wt_getR dX12_reads_15 FX12_7 (by assumption) (by assumption) ?_
      refine wa_iload_n dX12_reads_18 rfl ?_
      refine wt_iald k dX12_reads_19 (by assumption) rfl (by omega) ?_
      refine wt_iast k dX12_reads_20 (by assumption) rfl (by omega) (by first | exact hI _ _ | exact ⟨by omega, by omega⟩) ?_
      refine wa_iinc dX12_reads_21 rfl (by decide) ?_
      refine wa_goto 2 dX12_reads_24 (by decide) ?_
      exact nx
set_option maxRecDepth 20000 in
theorem rd_cp2 (hL : LX S) {I : Nat → Nat → Int} {n f : Int} {a4 : Option tmV} (Q : Option tmV → tmH → Prop) (kk : ∀ J' : Nat → Nat → Int, (∀ a, a ≠ 169 → J' a = I a) → (∀ x, x < 984 → J' 169 x = I 171 x) → tmW kX12_reads 6 0 0 105 [some (tR 168), some (tI n), some (tI f), some (tI (984 : Nat)), a4] [] (S, J', L) Q) : ∀ (j k : Nat) (J : Nat → Nat → Int), k + j = 984 → (∀ a, a ≠ 169 → J a = I a) → (∀ x, x < k → J 169 x = I 171 x) → tmW kX12_reads 6 0 0 80 [some (tR 168), some (tI n), some (tI f), some (tI k), a4] [] (S, J, L) Q := by
  intro j
  have o168 := oX168 hL
  have r168_0 := rX168_0 hL
  have r168_1 := rX168_1 hL
  have r168_3 := rX168_3 hL
  have r168_4 := rX168_4 hL
  have r168_5 := rX168_5 hL
  have r168_6 := rX168_6 hL
  have r168_7 := rX168_7 hL
  have r168_8 := rX168_8 hL
  have r168_11 := rX168_11 hL
  have r168_13 := rX168_13 hL
  have r168_17 := rX168_17 hL
  have r168_18 := rX168_18 hL
  have r168_19 := rX168_19 hL
  have r168_21 := rX168_21 hL
  have r168_22 := rX168_22 hL
  have r168_23 := rX168_23 hL
  have r168_24 := rX168_24 hL
  have r168_25 := rX168_25 hL
  have r168_26 := rX168_26 hL
  have r168_27 := rX168_27 hL
  have r168_28 := rX168_28 hL
  have r168_29 := rX168_29 hL
  have r168_30 := rX168_30 hL
  have o169 := oX169 hL
  have o171 := oX171 hL
  induction j with
  | zero =>
    intro k J hk h1 h2
    obtain rfl : k = 984 := by omega
    have := kk J h1 h2
    refine wa_iload_n dX12_reads_80 rfl ?_
    refine wa_sipush dX12_reads_81 rfl ?_
    refine wa_icmp_ge 105 dX12_reads_84 (by decide) (by exact ⟨by omega, by omega⟩) (by exact ⟨by omega, by omega⟩) (fun c_84 => ?_) (fun c_84 => ?_)
    · exact this
    · omega
  | succ j ih =>
    intro k J hk h1 h2
    have nx := ih (k + 1) (va_up J 169 (va_up (J 169) k (J 171 k))) (by omega) (fun a ha => by rw [vup_n ha]; exact h1 a ha) (fun x hx => by
      rw [vup_s]
      by_cases z : x = k
      · subst z; rw [vup_s, h1 171 (by decide)]
      · rw [vup_n z]; exact h2 x (by omega))
    refine wt_ir (fun hI => ?_)
    refine wa_iload_n dX12_reads_80 rfl ?_
    refine wa_sipush dX12_reads_81 rfl ?_
    refine wa_icmp_ge 105 dX12_reads_84 (by decide) (by first | exact hI _ _ | exact ⟨by omega, by omega⟩) (by first | exact hI _ _ | exact ⟨by omega, by omega⟩) (fun c_84 => ?_) (fun c_84 => ?_)
    · omega
    · refine wa_aload_n dX12_reads_87 rfl ?_
      refine wt_getR dX12_reads_88 FX12_7 (by assumption) (by assumption) ?_
      refine wa_iload_n dX12_reads_91 rfl ?_
      refine wa_aload_n dX12_reads_92 rfl ?_
      refine wt_getR dX12_reads_93 FX12_16 (by assumption) (by assumption) ?_
      refine wa_iload_n dX12_reads_96 rfl ?_
      refine wt_iald k dX12_reads_97 (by assumption) rfl (by omega) ?_
      refine wt_iast k dX12_reads_98 (by assumption) rfl (by omega) (by first | exact hI _ _ | exact ⟨by omega, by omega⟩) ?_
      refine wa_iinc dX12_reads_99 rfl (by decide) ?_
      refine wa_goto 80 dX12_reads_102 (by decide) ?_
      exact nx
set_option maxRecDepth 20000 in
theorem rd_cp3 (hL : LX S) {I : Nat → Nat → Int} {n f : Int} {a4 : Option tmV} (Q : Option tmV → tmH → Prop) (kk : ∀ J' : Nat → Nat → Int, (∀ a, a ≠ 169 → J' a = I a) → (∀ x, x < 984 → J' 169 x = I 171 x) → tmW kX12_reads 6 0 0 187 [some (tR 168), some (tI n), some (tI f), some (tI (984 : Nat)), a4] [] (S, J', L) Q) : ∀ (j k : Nat) (J : Nat → Nat → Int), k + j = 984 → (∀ a, a ≠ 169 → J a = I a) → (∀ x, x < k → J 169 x = I 171 x) → tmW kX12_reads 6 0 0 162 [some (tR 168), some (tI n), some (tI f), some (tI k), a4] [] (S, J, L) Q := by
  intro j
  have o168 := oX168 hL
  have r168_0 := rX168_0 hL
  have r168_1 := rX168_1 hL
  have r168_3 := rX168_3 hL
  have r168_4 := rX168_4 hL
  have r168_5 := rX168_5 hL
  have r168_6 := rX168_6 hL
  have r168_7 := rX168_7 hL
  have r168_8 := rX168_8 hL
  have r168_11 := rX168_11 hL
  have r168_13 := rX168_13 hL
  have r168_17 := rX168_17 hL
  have r168_18 := rX168_18 hL
  have r168_19 := rX168_19 hL
  have r168_21 := rX168_21 hL
  have r168_22 := rX168_22 hL
  have r168_23 := rX168_23 hL
  have r168_24 := rX168_24 hL
  have r168_25 := rX168_25 hL
  have r168_26 := rX168_26 hL
  have r168_27 := rX168_27 hL
  have r168_28 := rX168_28 hL
  have r168_29 := rX168_29 hL
  have r168_30 := rX168_30 hL
  have o169 := oX169 hL
  have o171 := oX171 hL
  induction j with
  | zero =>
    intro k J hk h1 h2
    obtain rfl : k = 984 := by omega
    have := kk J h1 h2
    refine wa_iload_n dX12_reads_162 rfl ?_
    refine wa_sipush dX12_reads_163 rfl ?_
    refine wa_icmp_ge 187 dX12_reads_166 (by decide) (by exact ⟨by omega, by omega⟩) (by exact ⟨by omega, by omega⟩) (fun c_166 => ?_) (fun c_166 => ?_)
    · exact this
    · omega
  | succ j ih =>
    intro k J hk h1 h2
    have nx := ih (k + 1) (va_up J 169 (va_up (J 169) k (J 171 k))) (by omega) (fun a ha => by rw [vup_n ha]; exact h1 a ha) (fun x hx => by
      rw [vup_s]
      by_cases z : x = k
      · subst z; rw [vup_s, h1 171 (by decide)]
      · rw [vup_n z]; exact h2 x (by omega))
    refine wt_ir (fun hI => ?_)
    refine wa_iload_n dX12_reads_162 rfl ?_
    refine wa_sipush dX12_reads_163 rfl ?_
    refine wa_icmp_ge 187 dX12_reads_166 (by decide) (by first | exact hI _ _ | exact ⟨by omega, by omega⟩) (by first | exact hI _ _ | exact ⟨by omega, by omega⟩) (fun c_166 => ?_) (fun c_166 => ?_)
    · omega
    · refine wa_aload_n dX12_reads_169 rfl ?_
      refine wt_getR dX12_reads_170 FX12_7 (by assumption) (by assumption) ?_
      refine wa_iload_n dX12_reads_173 rfl ?_
      refine wa_aload_n dX12_reads_174 rfl ?_
      refine wt_getR dX12_reads_175 FX12_16 (by assumption) (by assumption) ?_
      refine wa_iload_n dX12_reads_178 rfl ?_
      refine wt_iald k dX12_reads_179 (by assumption) rfl (by omega) ?_
      refine wt_iast k dX12_reads_180 (by assumption) rfl (by omega) (by first | exact hI _ _ | exact ⟨by omega, by omega⟩) ?_
      refine wa_iinc dX12_reads_181 rfl (by decide) ?_
      refine wa_goto 162 dX12_reads_184 (by decide) ?_
      exact nx
set_option maxRecDepth 20000 in
theorem rd_sw (hL : LX S) {I : Nat → Nat → Int} {n f : Int} (Q : Option tmV → tmH → Prop) (kk : ∀ (J' : Nat → Nat → Int) (a4 : Option tmV), (∀ a, a ≠ 169 → a ≠ 171 → J' a = I a) → (∀ x, x < 984 → J' 169 x = I 171 x ∧ J' 171 x = I 169 x) → tmW kX12_reads 6 0 0 156 [some (tR 168), some (tI n), some (tI f), some (tI (984 : Nat)), a4] [] (S, J', L) Q) : ∀ (j k : Nat) (J : Nat → Nat → Int) (a4 : Option tmV), k + j = 984 → (∀ a, a ≠ 169 → a ≠ 171 → J a = I a) → (∀ x, x < k → J 169 x = I 171 x ∧ J 171 x = I 169 x) → (∀ x, k ≤ x → J 169 x = I 169 x ∧ J 171 x = I 171 x) → tmW kX12_reads 6 0 0 115 [some (tR 168), some (tI n), some (tI f), some (tI k), a4] [] (S, J, L) Q := by
  intro j
  have o168 := oX168 hL
  have r168_0 := rX168_0 hL
  have r168_1 := rX168_1 hL
  have r168_3 := rX168_3 hL
  have r168_4 := rX168_4 hL
  have r168_5 := rX168_5 hL
  have r168_6 := rX168_6 hL
  have r168_7 := rX168_7 hL
  have r168_8 := rX168_8 hL
  have r168_11 := rX168_11 hL
  have r168_13 := rX168_13 hL
  have r168_17 := rX168_17 hL
  have r168_18 := rX168_18 hL
  have r168_19 := rX168_19 hL
  have r168_21 := rX168_21 hL
  have r168_22 := rX168_22 hL
  have r168_23 := rX168_23 hL
  have r168_24 := rX168_24 hL
  have r168_25 := rX168_25 hL
  have r168_26 := rX168_26 hL
  have r168_27 := rX168_27 hL
  have r168_28 := rX168_28 hL
  have r168_29 := rX168_29 hL
  have r168_30 := rX168_30 hL
  have o169 := oX169 hL
  have o171 := oX171 hL
  induction j with
  | zero =>
    intro k J a4 hk h1 h2 h3
    obtain rfl : k = 984 := by omega
    have := kk J a4 h1 h2
    refine wa_iload_n dX12_reads_115 rfl ?_
    refine wa_sipush dX12_reads_116 rfl ?_
    refine wa_icmp_ge 156 dX12_reads_119 (by decide) (by exact ⟨by omega, by omega⟩) (by exact ⟨by omega, by omega⟩) (fun c_119 => ?_) (fun c_119 => ?_)
    · exact this
    · omega
  | succ j ih =>
    intro k J a4 hk h1 h2 h3
    refine wt_ir (fun hI => ?_)
    have r1 := hI 169 k
    have r2 := hI 171 k
    generalize hV : va_up J 169 (va_up (J 169) k (J 171 k)) = V
    have v171 : V 171 = J 171 := by rw [← hV, vup_n (by decide)]
    have nx := ih (k + 1) (va_up V 171 (va_up (V 171) k (J 169 k))) (some (tI (J 169 k))) (by omega) (fun a a1 a2 => by rw [vup_n a2, ← hV, vup_n a1]; exact h1 a a1 a2) (fun x hx => by
      rw [vup_s, vup_n (show 169 ≠ 171 by decide), v171, ← hV, vup_s]
      by_cases z : x = k
      · subst z; rw [vup_s, vup_s]; exact ⟨(h3 x (Nat.le_refl _)).2, (h3 x (Nat.le_refl _)).1⟩
      · rw [vup_n z, vup_n z]; exact h2 x (by omega)) (fun x hx => by
      rw [vup_s, vup_n (show 169 ≠ 171 by decide), v171, ← hV, vup_s, vup_n (by omega), vup_n (by omega)]
      exact h3 x (by omega))
    refine wa_iload_n dX12_reads_115 rfl ?_
    refine wa_sipush dX12_reads_116 rfl ?_
    refine wa_icmp_ge 156 dX12_reads_119 (by decide) (by first | exact r1 | exact r2 | exact ⟨by omega, by omega⟩) (by first | exact r1 | exact r2 | exact ⟨by omega, by omega⟩) (fun c_119 => ?_) (fun c_119 => ?_)
    · omega
    · refine wa_aload_n dX12_reads_122 rfl ?_
      refine wt_getR dX12_reads_123 FX12_7 (by assumption) (by assumption) ?_
      refine wa_iload_n dX12_reads_126 rfl ?_
      refine wt_iald k dX12_reads_127 (by assumption) rfl (by omega) ?_
      refine wa_istore dX12_reads_128 (by decide) ?_
      refine wa_aload_n dX12_reads_130 rfl ?_
      refine wt_getR dX12_reads_131 FX12_7 (by assumption) (by assumption) ?_
      refine wa_iload_n dX12_reads_134 rfl ?_
      refine wa_aload_n dX12_reads_135 rfl ?_
      refine wt_getR dX12_reads_136 FX12_16 (by assumption) (by assumption) ?_
      refine wa_iload_n dX12_reads_139 rfl ?_
      refine wt_iald k dX12_reads_140 (by assumption) rfl (by omega) ?_
      refine wt_iast k dX12_reads_141 (by assumption) rfl (by omega) (by first | exact r1 | exact r2 | exact ⟨by omega, by omega⟩) ?_
      rw [hV]
      refine wa_aload_n dX12_reads_142 rfl ?_
      refine wt_getR dX12_reads_143 FX12_16 (by assumption) (by assumption) ?_
      refine wa_iload_n dX12_reads_146 rfl ?_
      refine wa_iload dX12_reads_147 rfl ?_
      refine wt_iast k dX12_reads_149 (by assumption) rfl (by omega) (by first | exact r1 | exact r2 | exact ⟨by omega, by omega⟩) ?_
      refine wa_iinc dX12_reads_150 rfl (by decide) ?_
      refine wa_goto 115 dX12_reads_153 (by decide) ?_
      exact nx
-- sentence after sentence
set_option maxRecDepth 20000 in
theorem rd_lp (hL : LX S) {I : Nat → Nat → Int} {b : Nat → Int} {n : Nat} (hb : I 176 = b) (hn : I 168 9 = (n : Int)) (hn1 : n ≤ 120) (hby : ∀ i, i < n → 0 ≤ b i) (Q : Option tmV → tmH → Prop) : ∀ (f k p : Nat) (X : TS) (rl : RuL) (J : Nat → Nat → Int), n + 1 ≤ p + f → p ≤ n → k ≤ p → RF I J → J 168 10 = ((skp b n p : Nat) : Int) → TsOK X → MT J (clX X) → rl.length ≤ 6 → RlOK rl → MRl (J 169) rl →
    (∀ (J' : Nat → Nat → Int) (q k' : Nat), RF I J' → J' 168 10 = (q : Int) → q ≤ n → (readW b n f k p X rl).1 = false → (readW b n f k p X rl).2.1 = -10 - (q : Int) → tmW kX12_reads 6 0 0 74 [some (tR 168), some (tI k'), some (tI 0), none, none] [] (S, J', L) Q) →
    (∀ (J' : Nat → Nat → Int) (k' : Nat), RF I J' → (readW b n f k p X rl).1 = true → MT J' (clX (readW b n f k p X rl).2.2.1) → MRl (J' 169) (readW b n f k p X rl).2.2.2 → TsOK (readW b n f k p X rl).2.2.1 → RlOK (readW b n f k p X rl).2.2.2 → (readW b n f k p X rl).2.2.2.length ≤ 6 → (readW b n f k p X rl).2.1 = (k' : Int) → tmW kX12_reads 6 0 0 74 [some (tR 168), some (tI k'), some (tI 1), none, none] [] (S, J', L) Q) →
    tmW kX12_reads 6 0 0 40 [some (tR 168), some (tI k), some (tI 1), none, none] [] (S, J, L) Q := by
  intro f
  have o168 := oX168 hL
  have r168_0 := rX168_0 hL
  have r168_1 := rX168_1 hL
  have r168_3 := rX168_3 hL
  have r168_4 := rX168_4 hL
  have r168_5 := rX168_5 hL
  have r168_6 := rX168_6 hL
  have r168_7 := rX168_7 hL
  have r168_8 := rX168_8 hL
  have r168_11 := rX168_11 hL
  have r168_13 := rX168_13 hL
  have r168_17 := rX168_17 hL
  have r168_18 := rX168_18 hL
  have r168_19 := rX168_19 hL
  have r168_21 := rX168_21 hL
  have r168_22 := rX168_22 hL
  have r168_23 := rX168_23 hL
  have r168_24 := rX168_24 hL
  have r168_25 := rX168_25 hL
  have r168_26 := rX168_26 hL
  have r168_27 := rX168_27 hL
  have r168_28 := rX168_28 hL
  have r168_29 := rX168_29 hL
  have r168_30 := rX168_30 hL
  induction f with
  | zero => intro k p X rl J h1 h2; omega
  | succ f ih =>
    intro k p X rl J hf hp hk fJ h10 hX hM h6 hok hR kF kT
    have sk := skp_b (b := b) hp
    obtain ⟨q, hq⟩ : ∃ q, q = skp b n p := ⟨_, rfl⟩
    rw [← hq] at h10 sk
    simp only [readW] at kF kT
    rw [← hq] at kF kT
    have j176 : J 176 = b := by rw [fJ.1 176 (by decide) (by decide) (by decide) (by decide) (by decide) (by decide) (by decide)]; exact hb
    have j9 : J 168 9 = (n : Int) := by rw [fJ.2 9 (by decide) (by decide) (by decide) (by decide) (by decide) (by decide) (by decide) (by decide)]; exact hn
    have ks := c_msentence (I := J) (L := L) hL (n := n) (p := q) j9 hn1 h10 sk.2 hX hM h6 hok hR
    rw [j176] at ks
    have sb := sentW_b (b := b) (n := n) (p := q) (X := X) (rl := rl) sk.2 hX h6
    -- behind a sentence that is not read
    have bad : ∀ K : Nat → Nat → Int, (sentW b n q X rl).1 = false → RF J K → K 168 10 = ((sentW b n q X rl).2.1 : Int) → (∀ (J' : Nat → Nat → Int) (k' : Nat), RF I J' → J' 168 10 = ((sentW b n q X rl).2.1 : Int) → tmW kX12_reads 6 0 0 74 [some (tR 168), some (tI k'), some (tI 0), none, none] [] (S, J', L) Q) → tmW kX12_reads 6 0 0 63 [some (tR 168), some (tI k), some (tI 1), none, none] [tI 0] (S, K, L) Q := fun K z fK k10 kk => by
      have fIK := fJ.trans' fK
      have kk9 : K 168 9 = (n : Int) := by rw [fIK.2 9 (by decide) (by decide) (by decide) (by decide) (by decide) (by decide) (by decide) (by decide)]; exact hn
      have k176 : K 176 = b := by rw [fIK.1 176 (by decide) (by decide) (by decide) (by decide) (by decide) (by decide) (by decide)]; exact hb
      have kp := c_mskips (I := K) (L := L) hL (n := n) (p := (sentW b n q X rl).2.1) kk9 hn1 k10 sb.1
      rw [k176, sentW_stop hn1 sk.2 z, atQ_self k10] at kp
      have nx := kk K (k + 1) fIK k10
      have l40 : tmW kX12_reads 6 0 0 40 [some (tR 168), some (tI ((k + 1 : Nat) : Int)), some (tI 0), none, none] [] (S, K, L) Q := by
        refine wa_iload_n dX12_reads_40 rfl ?_
        refine wa_if_eq 74 dX12_reads_41 (by decide) (by exact ⟨by omega, by omega⟩) (fun c_41 => ?_) (fun c_41 => ?_)
        · exact nx
        · omega
      refine wa_istore_n dX12_reads_63 (by decide) ?_
      refine wa_iinc dX12_reads_64 rfl (by decide) ?_
      refine wa_aload_n dX12_reads_67 rfl ?_
      refine wa_callVf (ci := 12) dX12_reads_68 KX12_skips LX12_201 ⟨_, _, rfl, by decide⟩ o168 (kp) (by decide) rfl rfl (Nat.le_of_ble_eq_true rfl) rfl rfl ?_
      refine wa_goto 40 dX12_reads_71 (by decide) ?_
      exact l40
    by_cases c : q < n
    · have eb : byt b n q ≠ -1 := by
        unfold byt; rw [if_pos c]; have := hby q c; omega
      rw [if_neg eb] at kF kT
      have p63 : ∀ K : Nat → Nat → Int, RF J K → K 168 10 = ((sentW b n q X rl).2.1 : Int) → ((sentW b n q X rl).1 = true → MT K (clX (sentW b n q X rl).2.2.1) ∧ MRl (K 169) (sentW b n q X rl).2.2.2 ∧ RlOK (sentW b n q X rl).2.2.2) → tmW kX12_reads 6 0 0 63 [some (tR 168), some (tI k), some (tI 1), none, none] [tI (if (sentW b n q X rl).1 = true then 1 else 0)] (S, K, L) Q := fun K fK k10 kk => by
        by_cases z : (sentW b n q X rl).1 = true
        · rw [if_pos z] at kF kT ⊢
          obtain ⟨m1, m2, m3⟩ := kk z
          obtain ⟨y1, y2, y3, y4⟩ := sb.2.1 z
          have fIK := fJ.trans' fK
          have kk9 : K 168 9 = (n : Int) := by rw [fIK.2 9 (by decide) (by decide) (by decide) (by decide) (by decide) (by decide) (by decide) (by decide)]; exact hn
          have k176 : K 176 = b := by rw [fIK.1 176 (by decide) (by decide) (by decide) (by decide) (by decide) (by decide) (by decide)]; exact hb
          have kp := c_mskips (I := K) (L := L) hL (n := n) (p := (sentW b n q X rl).2.1) kk9 hn1 k10 sb.1
          rw [k176] at kp
          have nx := ih (k + 1) (sentW b n q X rl).2.1 (sentW b n q X rl).2.2.1 (sentW b n q X rl).2.2.2 (atQ K (skp b n (sentW b n q X rl).2.1)) (by omega) sb.1 (by omega) (fIK.trans' (RF.at _)) atQ_10 y2 (m1.row (atQ_n (by decide))) y4 m3 (by rw [atQ_n (by decide)]; exact m2) kF kT
          refine wa_istore_n dX12_reads_63 (by decide) ?_
          refine wa_iinc dX12_reads_64 rfl (by decide) ?_
          refine wa_aload_n dX12_reads_67 rfl ?_
          refine wa_callVf (ci := 12) dX12_reads_68 KX12_skips LX12_201 ⟨_, _, rfl, by decide⟩ o168 (kp) (by decide) rfl rfl (Nat.le_of_ble_eq_true rfl) rfl rfl ?_
          refine wa_goto 40 dX12_reads_71 (by decide) ?_
          exact nx
        · have z : (sentW b n q X rl).1 = false := by
            cases y : (sentW b n q X rl).1 with
            | true => exact absurd y z
            | false => rfl
          rw [if_neg (by rw [z]; decide)] at kF ⊢
          exact bad K z fK k10 (fun J' k' f1 f2 => kF J' _ k' f1 f2 sb.1 rfl rfl)
      refine wa_iload_n dX12_reads_40 rfl ?_
      refine wa_if_eq 74 dX12_reads_41 (by decide) (by exact ⟨by omega, by omega⟩) (fun c_41 => ?_) (fun c_41 => ?_)
      · omega
      · refine wa_aload_n dX12_reads_44 rfl ?_
        refine wt_getI dX12_reads_45 FX12_195 (by assumption) ?_
        try first | rw [h10] | rw [j9] | skip
        refine wa_aload_n dX12_reads_48 rfl ?_
        refine wt_getI dX12_reads_49 FX12_192 (by assumption) ?_
        try first | rw [h10] | rw [j9] | skip
        refine wa_icmp_lt 59 dX12_reads_52 (by decide) (by exact ⟨by omega, by omega⟩) (by exact ⟨by omega, by omega⟩) (fun c_52 => ?_) (fun c_52 => ?_)
        · refine wa_aload_n dX12_reads_59 rfl ?_
          refine wa_callV (ci := 12) dX12_reads_60 KX12_sentence LX12_229 ⟨_, _, rfl, by decide⟩ o168 (ks) (by decide) rfl (Nat.le_of_ble_eq_true rfl) rfl rfl (fun r h' hq => ?_)
          obtain ⟨rfl, K, rfl, k1, k2, k3⟩ := hq
          exact p63 K k1 k2 k3
        · omega
    · have eqn : q = n := by omega
      have eb : byt b n q = -1 := by unfold byt; rw [if_neg c]
      rw [if_pos eb] at kF kT
      by_cases k0 : k = 0
      · rw [if_pos k0] at kF
        have se : sentW b n q X rl = (false, q, X, rl) := by rw [eqn]; exact sentW_end
        have p63 : ∀ K : Nat → Nat → Int, RF J K → K 168 10 = ((sentW b n q X rl).2.1 : Int) → tmW kX12_reads 6 0 0 63 [some (tR 168), some (tI k), some (tI 1), none, none] [tI (if (sentW b n q X rl).1 = true then 1 else 0)] (S, K, L) Q := fun K fK k10 => by
          have z : (sentW b n q X rl).1 = false := by rw [se]
          rw [if_neg (by rw [z]; decide)]
          exact bad K z fK k10 (fun J' k' f1 f2 => kF J' q k' f1 (by rw [f2, se]) sk.2 rfl rfl)
        refine wa_iload_n dX12_reads_40 rfl ?_
        refine wa_if_eq 74 dX12_reads_41 (by decide) (by exact ⟨by omega, by omega⟩) (fun c_41 => ?_) (fun c_41 => ?_)
        · omega
        · refine wa_aload_n dX12_reads_44 rfl ?_
          refine wt_getI dX12_reads_45 FX12_195 (by assumption) ?_
          try first | rw [h10] | rw [j9] | skip
          refine wa_aload_n dX12_reads_48 rfl ?_
          refine wt_getI dX12_reads_49 FX12_192 (by assumption) ?_
          try first | rw [h10] | rw [j9] | skip
          refine wa_icmp_lt 59 dX12_reads_52 (by decide) (by exact ⟨by omega, by omega⟩) (by exact ⟨by omega, by omega⟩) (fun c_52 => ?_) (fun c_52 => ?_)
          · omega
          · refine wa_iload_n dX12_reads_55 rfl ?_
            refine wa_if_ne 74 dX12_reads_56 (by decide) (by exact ⟨by omega, by omega⟩) (fun c_56 => ?_) (fun c_56 => ?_)
            · omega
            · refine wa_aload_n dX12_reads_59 rfl ?_
              refine wa_callV (ci := 12) dX12_reads_60 KX12_sentence LX12_229 ⟨_, _, rfl, by decide⟩ o168 (ks) (by decide) rfl (Nat.le_of_ble_eq_true rfl) rfl rfl (fun r h' hq => ?_)
              obtain ⟨rfl, K, rfl, k1, k2, k3⟩ := hq
              exact p63 K k1 k2
      · rw [if_neg k0] at kT
        have nx := kT J k fJ rfl hM hR hX hok h6 rfl
        refine wa_iload_n dX12_reads_40 rfl ?_
        refine wa_if_eq 74 dX12_reads_41 (by decide) (by exact ⟨by omega, by omega⟩) (fun c_41 => ?_) (fun c_41 => ?_)
        · omega
        · refine wa_aload_n dX12_reads_44 rfl ?_
          refine wt_getI dX12_reads_45 FX12_195 (by assumption) ?_
          try first | rw [h10] | rw [j9] | skip
          refine wa_aload_n dX12_reads_48 rfl ?_
          refine wt_getI dX12_reads_49 FX12_192 (by assumption) ?_
          try first | rw [h10] | rw [j9] | skip
          refine wa_icmp_lt 59 dX12_reads_52 (by decide) (by exact ⟨by omega, by omega⟩) (by exact ⟨by omega, by omega⟩) (fun c_52 => ?_) (fun c_52 => ?_)
          · omega
          · refine wa_iload_n dX12_reads_55 rfl ?_
            refine wa_if_ne 74 dX12_reads_56 (by decide) (by exact ⟨by omega, by omega⟩) (fun c_56 => ?_) (fun c_56 => ?_)
            · exact nx
            · omega
set_option maxRecDepth 20000 in
theorem RF.keepMR {I J : Nat → Nat → Int} {A : AS} (f : RF I J) : (∀ a, a = 170 ∨ a = 172 ∨ a = 173 ∨ a = 175 ∨ a = 176 → J a = I a) ∧ J 168 2 = I 168 2 ∧ J 168 9 = I 168 9 ∧ J 171 = I 171 ∧ CFr I J := ⟨fun a ha => f.1 a (by omega) (by omega) (by omega) (by omega) (by omega) (by omega) (by omega), f.2 2 (by decide) (by decide) (by decide) (by decide) (by decide) (by decide) (by decide) (by decide), f.2 9 (by decide) (by decide) (by decide) (by decide) (by decide) (by decide) (by decide) (by decide), f.1 171 (by decide) (by decide) (by decide) (by decide) (by decide) (by decide) (by decide), fun a ha => f.1 a (by omega) (by omega) (by omega) (by omega) (by omega) (by omega) (by omega)⟩
set_option maxRecDepth 20000 in
theorem c_mreads {I : Nat → Nat → Int} {m : Nat} {A : AS} (hL : LX S) (ha : AOK m A) (h : MR I A) : tmC yX12_reads kX12_reads 6 0 0 [tR 168] (S, I, L) (MPost S I L (tI (spReads A).1) (spReads A).2) := by
  refine tmC.mk (lv := [some (tR 168), none, none, none, none]) 4 ⟨rfl, by decide +kernel, by decide⟩ rfl rfl ?_
  have o168 := oX168 hL
  have r168_0 := rX168_0 hL
  have r168_1 := rX168_1 hL
  have r168_3 := rX168_3 hL
  have r168_4 := rX168_4 hL
  have r168_5 := rX168_5 hL
  have r168_6 := rX168_6 hL
  have r168_7 := rX168_7 hL
  have r168_8 := rX168_8 hL
  have r168_11 := rX168_11 hL
  have r168_13 := rX168_13 hL
  have r168_17 := rX168_17 hL
  have r168_18 := rX168_18 hL
  have r168_19 := rX168_19 hL
  have r168_21 := rX168_21 hL
  have r168_22 := rX168_22 hL
  have r168_23 := rX168_23 hL
  have r168_24 := rX168_24 hL
  have r168_25 := rX168_25 hL
  have r168_26 := rX168_26 hL
  have r168_27 := rX168_27 hL
  have r168_28 := rX168_28 hL
  have r168_29 := rX168_29 hL
  have r168_30 := rX168_30 hL
  obtain ⟨h1, h2, h3, h4, h5, h6, h7, h8⟩ := id h
  have hv := ha.1
  have n1 := ha.2.2.2.2.2.2.1
  have by' := ha.2.2.2.2.2.2.2
  obtain ⟨n, hnn⟩ : ∃ n, n = A.2.2.2.2.2.1 := ⟨_, rfl⟩
  rw [← hnn] at h7 h8 n1 by'
  have er : rdA A = readW (I 176) n 121 0 0 A.1.1 A.1.2 := by
    unfold rdA
    rw [← hnn, readW_cgb (b := A.2.2.2.2.2.2) (b' := I 176) (fun i hi => h8 i hi)]
  have rp := readW_pos (b := I 176) (n := n) 121 0 0 A.1.1 A.1.2 (by omega) hv.2.1 hv.1.1
  generalize hQ : MPost S I L (tI (spReads A).1) (spReads A).2 = Q
  -- the copy taken; at the first byte
  have p27 : ∀ J : Nat → Nat → Int, (∀ a, a ≠ 171 → J a = I a) → (∀ x, x < 984 → J 171 x = I 169 x) → tmW kX12_reads 6 0 0 27 [some (tR 168), some (tI (984 : Nat)), none, none, none] [] (S, J, L) Q := fun J j1 j2 => by
    have j176 : J 176 = I 176 := j1 176 (by decide)
    have j8 : J 168 = I 168 := j1 168 (by decide)
    have j9 : J 169 = I 169 := j1 169 (by decide)
    have ks := c_mskips (I := atQ J 0) (L := L) hL (n := n) (p := 0) (by rw [atQ_k (by decide), j8]; exact h7) n1 atQ_10 (by omega)
    rw [atQ_n (show 176 ≠ 168 by decide), j176, atQ_atQ] at ks
    have eK : va_up J 168 (va_up (J 168) 10 0) = atQ J 0 := rfl
    have lp := rd_lp (L := L) hL (I := J) (b := I 176) (n := n) j176 (by rw [j8]; exact h7) n1 (fun i hi => by rw [h8 i hi]; exact (by' i hi).1) Q 121 0 0 A.1.1 A.1.2 (atQ J (skp (I 176) n 0)) (by omega) (by omega) (by omega) (RF.at _) atQ_10 hv.1.1 ((show MT J A.1.1 by unfold MT; rw [j9]; exact h1.1).cg (clX_self hv.1) |>.row (atQ_n (by decide))) hv.2.1 hv.2.2 (by rw [atQ_n (by decide), j9]; exact h1.2) (fun K q k' f1 f2 f3 z1 z2 => by
        -- not read: all is as it was
        have km := f1.keepMR (A := A)
        have c2 := rd_cp2 (L := L) hL (I := K) (n := (k' : Int)) (f := 0) (a4 := none) Q (fun M m1 m2 => by
          have e9 : ∀ x, x < 984 → M 169 x = I 169 x := fun x hx => by rw [m2 x hx, km.2.2.2.1]; exact j2 x hx
          have ee : ∀ a, a = 170 ∨ a = 172 ∨ a = 173 ∨ a = 175 ∨ a = 176 → M a = I a := fun a hh => by rw [m1 a (by omega), km.1 a hh]; exact j1 a (by omega)
          have m2' : M 168 2 = I 168 2 := by rw [m1 168 (by decide), km.2.1, j8]
          have m9' : M 168 9 = I 168 9 := by rw [m1 168 (by decide), km.2.2.1, j8]
          have m10 : M 168 10 = (q : Int) := by rw [m1 168 (by decide)]; exact f2
          have es : spReads A = (-10 - (q : Int), A) := by
            unfold spReads
            rw [er, if_neg (by rw [z1]; decide), z2]
          have fin : Q (some (tI (-10 - (q : Int)))) (S, M, L) := by
            rw [← hQ, es]
            exact ⟨rfl, M, rfl, ⟨h1.cg hv e9, by rw [m2']; exact h2, fun i s hs => by rw [ee 170 (by omega)]; exact h3 i s hs, by rw [ee 172 (by omega)]; exact h4, fun j hj => by rw [ee 175 (by omega)]; exact h5 j hj, fun j hj => by rw [ee 173 (by omega)]; exact h6 j hj, by rw [m9', ← hnn]; exact h7, fun i hi => by rw [← hnn] at hi; rw [ee 176 (by omega)]; exact h8 i hi⟩, fun a b => by rw [m1 a (by omega), km.2.2.2.2 a b]; exact j1 a (by omega)⟩
          refine wa_bipush dX12_reads_105 rfl ?_
          refine wa_aload_n dX12_reads_107 rfl ?_
          refine wt_getI dX12_reads_108 FX12_195 (by assumption) ?_
          try first | rw [m10] | skip
          refine wa_isub dX12_reads_111 ?_
          refine wa_ireturn dX12_reads_112 rfl ?_
          exact fin
          ) 984 0 K (by omega) (fun _ _ => rfl) (fun x hx => by omega)
        refine wa_iload_n dX12_reads_74 rfl ?_
        refine wa_if_ne 113 dX12_reads_75 (by decide) (by exact ⟨by omega, by omega⟩) (fun c_75 => ?_) (fun c_75 => ?_)
        · omega
        · refine wa_iconst dX12_reads_78 ?_
          refine wa_istore_n dX12_reads_79 (by decide) ?_
          exact c2
        ) (fun K k' f1 z1 m1 m2 m3 m4 m5 z2 => by
        -- read: the old state is kept
        have km := f1.keepMR (A := A)
        obtain ⟨y1, y2, y3, y4⟩ := rp.1 z1
        generalize hRR : readW (I 176) n 121 0 0 A.1.1 A.1.2 = R at *
        have stv : StV (clX R.2.2.1, R.2.2.2) := ⟨clX_ok m3, m5, m4⟩
        have es : spReads A = (R.2.1, aNow (aKeep A) (clX R.2.2.1, R.2.2.2)) := by
          unfold spReads
          rw [er, if_pos z1]
        have c3 := rd_sw (L := L) hL (I := K) (n := (k' : Int)) (f := 1) Q (fun M a4 n1' n2' => by
          have e9 : ∀ x, x < 984 → M 169 x = I 169 x := fun x hx => by rw [(n2' x hx).1, km.2.2.2.1]; exact j2 x hx
          have e71 : ∀ x, x < 984 → M 171 x = K 169 x := fun x hx => (n2' x hx).2
          have ee : ∀ a, a = 170 ∨ a = 172 ∨ a = 173 ∨ a = 175 ∨ a = 176 → M a = I a := fun a hh => by rw [n1' a (by omega) (by omega), km.1 a hh]; exact j1 a (by omega)
          have m2' : M 168 2 = I 168 2 := by rw [n1' 168 (by decide) (by decide), km.2.1, j8]
          have m9' : M 168 9 = I 168 9 := by rw [n1' 168 (by decide) (by decide), km.2.2.1, j8]
          have hMR : MR M A := ⟨h1.cg hv e9, by rw [m2']; exact h2, fun i s hs => by rw [ee 170 (by omega)]; exact h3 i s hs, by rw [ee 172 (by omega)]; exact h4, fun j hj => by rw [ee 175 (by omega)]; exact h5 j hj, fun j hj => by rw [ee 173 (by omega)]; exact h6 j hj, by rw [m9', ← hnn]; exact h7, fun i hi => by rw [← hnn] at hi; rw [ee 176 (by omega)]; exact h8 i hi⟩
          have hCF : CFr I M := fun a b => by rw [n1' a (by omega) (by omega), km.2.2.2.2 a b]; exact j1 a (by omega)
          have kk := c_mkeeps (I := M) (L := L) hL ha hMR
          have p160 : ∀ W : Nat → Nat → Int, MR W (aKeep A) → CFr M W → (∀ a, a ≠ 168 → a ≠ 170 → W a = M a) → tmW kX12_reads 6 0 0 160 [some (tR 168), some (tI k'), some (tI 1), some (tI (984 : Nat)), a4] [] (S, W, L) Q := fun W w1 w2 w3 => by
            have c4 := rd_cp3 (L := L) hL (I := W) (n := (k' : Int)) (f := 1) (a4 := a4) Q (fun N p1 p2 => by
              have fin : Q (some (tI (k' : Int))) (S, N, L) := by
                rw [← hQ, es]
                refine ⟨by rw [z2], N, rfl, w1.now (MRow.cg (f := K 169) ⟨m1, m2⟩ stv (fun x hx => ?_)) (fun a hh => p1 a (by omega)) (by rw [p1 168 (by decide)]) (by rw [p1 168 (by decide)]), (hCF.trans' w2).trans' (fun a b => p1 a (by omega))⟩
                rw [p2 x hx, w3 171 (by decide) (by decide)]; exact e71 x hx
              refine wa_iload_n dX12_reads_187 rfl ?_
              refine wa_ireturn dX12_reads_188 rfl ?_
              exact fin
              ) 984 0 W (by omega) (fun _ _ => rfl) (fun x hx => by omega)
            refine wa_iconst dX12_reads_160 ?_
            refine wa_istore_n dX12_reads_161 (by decide) ?_
            exact c4
          refine wa_aload_n dX12_reads_156 rfl ?_
          refine wa_callV (ci := 12) dX12_reads_157 KX12_keeps LX12_116 ⟨_, _, rfl, by decide⟩ o168 (kk) (by decide) rfl (Nat.le_of_ble_eq_true rfl) rfl rfl (fun r h' hq => ?_)
          obtain ⟨rfl, W, rfl, w1, w2, w3⟩ := hq
          exact p160 W w1 w2 w3
          ) 984 0 K none (by omega) (fun _ _ _ => rfl) (fun x hx => by omega) (fun x _ => ⟨rfl, rfl⟩)
        refine wa_iload_n dX12_reads_74 rfl ?_
        refine wa_if_ne 113 dX12_reads_75 (by decide) (by exact ⟨by omega, by omega⟩) (fun c_75 => ?_) (fun c_75 => ?_)
        · refine wa_iconst dX12_reads_113 ?_
          refine wa_istore_n dX12_reads_114 (by decide) ?_
          exact c3
        · omega
        )
    refine wa_iconst dX12_reads_27 ?_
    refine wa_istore_n dX12_reads_28 (by decide) ?_
    refine wa_aload_n dX12_reads_29 rfl ?_
    refine wa_iconst dX12_reads_30 ?_
    refine wt_putI dX12_reads_31 FX12_195 (WX12_10 _ _) (by assumption) (by exact ⟨by omega, by omega⟩) ?_
    rw [eK]
    refine wa_aload_n dX12_reads_34 rfl ?_
    refine wa_callVf (ci := 12) dX12_reads_35 KX12_skips LX12_201 ⟨_, _, rfl, by decide⟩ o168 (ks) (by decide) rfl rfl (Nat.le_of_ble_eq_true rfl) rfl rfl ?_
    refine wa_iconst dX12_reads_38 ?_
    refine wa_istore_n dX12_reads_39 (by decide) ?_
    exact lp
  have c1 := rd_cp1 (L := L) hL (I := I) (n := 0) (f := 0) (a4 := none) Q p27 984 0 I (by omega) (fun _ _ => rfl) (fun x hx => by omega)
  refine wa_iconst dX12_reads_0 ?_
  refine wa_istore_n dX12_reads_1 (by decide) ?_
  exact c1
end S99zi
