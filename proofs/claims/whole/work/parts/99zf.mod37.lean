/-! ===== 99zf: the reference: rules ===== -/
/-- a RULE's words have been put behind the others -/
def RuF (I J : Nat → Nat → Int) (r : Nat) (w v : List Int) : Prop := (∀ a, a ≠ 169 → J a = I a) ∧ (∀ k, k ≠ 1 → k ≠ 252 + r → k ≠ 258 + r → (k < 264 + 120 * r ∨ 264 + 120 * r + 120 ≤ k) → J 169 k = I 169 k) ∧ J 169 1 = ((r + 1 : Nat) : Int) ∧ J 169 (252 + r) = (w.length : Int) ∧ J 169 (258 + r) = (v.length : Int) ∧ (∀ k, k < w.length → J 169 (264 + 120 * r + k) = w.getD k 0) ∧ ∀ k, k < v.length → J 169 (264 + 120 * r + w.length + k) = v.getD k 0
set_option maxRecDepth 20000 in
theorem RuF.rl {I J : Nat → Nat → Int} {rl : RuL} {w v : List Int} (h6 : rl.length < 6) (hok : RlOK rl) (h : MRl (I 169) rl) (f : RuF I J rl.length w v) : MRl (J 169) (rl ++ [(w, v)]) := by
  obtain ⟨f1, f2, f3, f4, f5, f6, f7⟩ := f
  refine ⟨by rw [f3, List.length_append]; rfl, fun r q hq => ?_⟩
  by_cases c : r < rl.length
  · rw [List.getElem?_append_left c] at hq
    obtain ⟨a, b, d, e⟩ := h.2 r q hq
    obtain ⟨_, _, _, _, o5, _, _⟩ := hok q (List.mem_of_getElem? hq)
    exact ⟨by rw [f2 _ (by omega) (by omega) (by omega) (by omega)]; exact a, by rw [f2 _ (by omega) (by omega) (by omega) (by omega)]; exact b, fun k hk => by rw [f2 _ (by omega) (by omega) (by omega) (by omega)]; exact d k hk, fun k hk => by rw [f2 _ (by omega) (by omega) (by omega) (by omega)]; exact e k hk⟩
  · rw [List.getElem?_append_right (by omega)] at hq
    have e0 : r - rl.length = 0 := by
      by_cases y : r - rl.length = 0
      · exact y
      · rw [List.getElem?_eq_none (by simp; omega)] at hq; cases hq
    rw [e0] at hq
    simp only [List.getElem?_cons_zero, Option.some.injEq] at hq
    subst hq
    obtain rfl : r = rl.length := by omega
    exact ⟨f4, f5, f6, f7⟩
set_option maxRecDepth 20000 in
theorem RuF.mt {I J : Nat → Nat → Int} {r : Nat} {w v : List Int} {X : TS} (h : MT I X) (h50 : X.1 ≤ 50) (f : RuF I J r w v) : MT J X := by
  have e : ∀ k, k ≠ 1 → k < 252 → J 169 k = I 169 k := fun k k1 k2 => f.2.1 k k1 (by omega) (by omega) (by omega)
  refine ⟨by rw [e 0 (by decide) (by decide)]; exact h.1, fun t ht => ?_⟩
  rw [e _ (by omega) (by omega), e _ (by omega) (by omega), e _ (by omega) (by omega), e _ (by omega) (by omega), e _ (by omega) (by omega)]
  exact h.2 t ht
section S99zf
variable {S : tmS} {I : Nat → Nat → Int} {L : Nat → Nat → Int64}
set_option maxRecDepth 20000 in
theorem rules_2 (hL : LX S) {r : Nat} (hr : r < 6) {w v : List Int} (hw : w.length + v.length ≤ 120) (hI0 : tmIR I) (h12 : I 168 12 = (w.length : Int)) (h14 : I 168 14 = (v.length : Int)) (h8 : ∀ k, k < v.length → I 178 k = v.getD k 0) : ∀ (j k : Nat) (J : Nat → Nat → Int), k + j = v.length → (∀ a, a ≠ 169 → J a = I a) → J 169 1 = (r : Int) →
    tmW kX12_rules 1 0 0 74 [some (tR 168), some (tI r), some (tI k)] [] (S, J, L) (fun q h' => q = none ∧ ∃ K, h' = (S, K, L) ∧ (∀ a, a ≠ 169 → K a = I a) ∧ K 169 1 = ((r + 1 : Nat) : Int) ∧ (∀ x, x ≠ 1 → (x < 264 + 120 * r + w.length + k ∨ 264 + 120 * r + w.length + v.length ≤ x) → K 169 x = J 169 x) ∧ ∀ x, k ≤ x → x < v.length → K 169 (264 + 120 * r + w.length + x) = v.getD x 0) := by
  intro j
  have o168 := oX168 hL
  have r168_0 := rX168_0 hL
  have r168_1 := rX168_1 hL
  have r168_3 := rX168_3 hL
  have r168_4 := rX168_4 hL
  have r168_5 := rX168_5 hL
  have r168_6 := rX168_6 hL
  have r168_7 := rX168_7 hL
  have r168_8 := rX168_8 hL
  have r168_11 := rX168_11 hL
  have r168_13 := rX168_13 hL
  have r168_17 := rX168_17 hL
  have r168_18 := rX168_18 hL
  have r168_19 := rX168_19 hL
  have r168_21 := rX168_21 hL
  have r168_22 := rX168_22 hL
  have r168_23 := rX168_23 hL
  have r168_24 := rX168_24 hL
  have r168_25 := rX168_25 hL
  have r168_26 := rX168_26 hL
  have r168_27 := rX168_27 hL
  have r168_28 := rX168_28 hL
  have r168_29 := rX168_29 hL
  have r168_30 := rX168_30 hL
  have o169 := oX169 hL
  have o178 := oX178 hL
  induction j with
  | zero =>
    intro k J hk e hr1
    have e14 : J 168 14 = (v.length : Int) := by rw [e 168 (by decide)]; exact h14
    refine wa_iload_n dX12_rules_74 rfl ?_
    refine wa_aload_n dX12_rules_75 rfl ?_
    refine wt_getI dX12_rules_76 FX12_219 (by assumption) ?_
    try first | rw [e14] | rw [hr1] | skip
    refine wa_icmp_ge 114 dX12_rules_79 (by decide) (by exact ⟨by omega, by omega⟩) (by exact ⟨by omega, by omega⟩) (fun c_79 => ?_) (fun c_79 => ?_)
    · refine wa_aload_n dX12_rules_114 rfl ?_
      refine wt_getR dX12_rules_115 FX12_7 (by assumption) (by assumption) ?_
      refine wa_iconst dX12_rules_118 ?_
      refine wa_dup2 dX12_rules_119 rfl rfl ?_
      refine wt_iald 1 dX12_rules_120 (by assumption) rfl (by omega) ?_
      try first | rw [e14] | rw [hr1] | skip
      refine wa_iconst dX12_rules_121 ?_
      refine wa_iadd dX12_rules_122 ?_
      refine wt_iast 1 dX12_rules_123 (by assumption) rfl (by omega) (by exact ⟨by omega, by omega⟩) ?_
      refine wa_return dX12_rules_124 rfl ?_
      exact ⟨rfl, _, rfl, fun a ha => by rw [vup_n ha]; exact e a ha, by rw [vup_s, vup_s]; rfl, fun x x1 _ => by rw [vup_s, vup_n x1], fun x x1 x2 => by omega⟩
    · omega
  | succ j ih =>
    intro k J hk e hr1
    have e14 : J 168 14 = (v.length : Int) := by rw [e 168 (by decide)]; exact h14
    have e12 : J 168 12 = (w.length : Int) := by rw [e 168 (by decide)]; exact h12
    have e8 : J 178 k = v.getD k 0 := by rw [e 178 (by decide)]; exact h8 k (by omega)
    have rg := hI0 178 k
    rw [h8 k (by omega)] at rg
    have nx := (ih (k + 1) (va_up J 169 (va_up (J 169) (264 + 120 * r + w.length + k) (v.getD k 0))) (by omega) (fun a ha => by rw [vup_n ha]; exact e a ha) (by rw [vup_s, vup_n (by omega)]; exact hr1)).wk (Q2 := fun q h' => q = none ∧ ∃ K, h' = (S, K, L) ∧ (∀ a, a ≠ 169 → K a = I a) ∧ K 169 1 = ((r + 1 : Nat) : Int) ∧ (∀ x, x ≠ 1 → (x < 264 + 120 * r + w.length + k ∨ 264 + 120 * r + w.length + v.length ≤ x) → K 169 x = J 169 x) ∧ ∀ x, k ≤ x → x < v.length → K 169 (264 + 120 * r + w.length + x) = v.getD x 0) (fun q h' hq => by
      obtain ⟨rfl, K, rfl, k1, k2, k3, k4⟩ := hq
      refine ⟨rfl, K, rfl, k1, k2, fun x x1 x2 => by rw [k3 x x1 (by omega), vup_s, vup_n (by omega)], fun x x1 x2 => ?_⟩
      by_cases z : x = k
      · rw [z, k3 _ (by omega) (by omega), vup_s, vup_s]
      · exact k4 x (by omega) x2)
    refine wa_iload_n dX12_rules_74 rfl ?_
    refine wa_aload_n dX12_rules_75 rfl ?_
    refine wt_getI dX12_rules_76 FX12_219 (by assumption) ?_
    try first | rw [e14] | rw [e12] | rw [e8] | skip
    refine wa_icmp_ge 114 dX12_rules_79 (by decide) (by first | exact rg | exact ⟨by omega, by omega⟩) (by first | exact rg | exact ⟨by omega, by omega⟩) (fun c_79 => ?_) (fun c_79 => ?_)
    · omega
    · refine wa_aload_n dX12_rules_82 rfl ?_
      refine wt_getR dX12_rules_83 FX12_7 (by assumption) (by assumption) ?_
      refine wa_sipush dX12_rules_86 rfl ?_
      refine wa_bipush dX12_rules_89 rfl ?_
      refine wa_iload_n dX12_rules_91 rfl ?_
      refine wa_imul dX12_rules_92 ?_
      refine wa_iadd dX12_rules_93 ?_
      refine wa_aload_n dX12_rules_94 rfl ?_
      refine wt_getI dX12_rules_95 FX12_216 (by assumption) ?_
      try first | rw [e14] | rw [e12] | rw [e8] | skip
      refine wa_iadd dX12_rules_98 ?_
      refine wa_iload_n dX12_rules_99 rfl ?_
      refine wa_iadd dX12_rules_100 ?_
      refine wa_aload_n dX12_rules_101 rfl ?_
      refine wt_getR dX12_rules_102 FX12_37 (by assumption) (by assumption) ?_
      refine wa_iload_n dX12_rules_105 rfl ?_
      refine wt_iald k dX12_rules_106 (by assumption) rfl (by omega) ?_
      try first | rw [e14] | rw [e12] | rw [e8] | skip
      refine wt_iast (264 + 120 * r + w.length + k) dX12_rules_107 (by assumption) (by omega) (by omega) (by first | exact rg | exact ⟨by omega, by omega⟩) ?_
      refine wa_iinc dX12_rules_108 rfl (by decide) ?_
      refine wa_goto 74 dX12_rules_111 (by decide) ?_
      exact nx
set_option maxRecDepth 20000 in
theorem rules_1 (hL : LX S) {r : Nat} (hr : r < 6) {w v : List Int} (hw : w.length + v.length ≤ 120) (hI0 : tmIR I) (h12 : I 168 12 = (w.length : Int)) (h7 : ∀ k, k < w.length → I 177 k = w.getD k 0) (Q : Option tmV → tmH → Prop) : ∀ (j k : Nat) (J : Nat → Nat → Int), k + j = w.length → (∀ a, a ≠ 169 → J a = I a) →
    (∀ K : Nat → Nat → Int, (∀ a, a ≠ 169 → K a = I a) → (∀ x, (x < 264 + 120 * r + k ∨ 264 + 120 * r + w.length ≤ x) → K 169 x = J 169 x) → (∀ x, k ≤ x → x < w.length → K 169 (264 + 120 * r + x) = w.getD x 0) → tmW kX12_rules 1 0 0 72 [some (tR 168), some (tI r), some (tI (w.length : Nat))] [] (S, K, L) Q) →
    tmW kX12_rules 1 0 0 37 [some (tR 168), some (tI r), some (tI k)] [] (S, J, L) Q := by
  intro j
  have o168 := oX168 hL
  have r168_0 := rX168_0 hL
  have r168_1 := rX168_1 hL
  have r168_3 := rX168_3 hL
  have r168_4 := rX168_4 hL
  have r168_5 := rX168_5 hL
  have r168_6 := rX168_6 hL
  have r168_7 := rX168_7 hL
  have r168_8 := rX168_8 hL
  have r168_11 := rX168_11 hL
  have r168_13 := rX168_13 hL
  have r168_17 := rX168_17 hL
  have r168_18 := rX168_18 hL
  have r168_19 := rX168_19 hL
  have r168_21 := rX168_21 hL
  have r168_22 := rX168_22 hL
  have r168_23 := rX168_23 hL
  have r168_24 := rX168_24 hL
  have r168_25 := rX168_25 hL
  have r168_26 := rX168_26 hL
  have r168_27 := rX168_27 hL
  have r168_28 := rX168_28 hL
  have r168_29 := rX168_29 hL
  have r168_30 := rX168_30 hL
  have o169 := oX169 hL
  have o177 := oX177 hL
  induction j with
  | zero =>
    intro k J hk e kk
    obtain rfl : k = w.length := by omega
    have e12 : J 168 12 = (w.length : Int) := by rw [e 168 (by decide)]; exact h12
    have := kk J e (fun _ _ => rfl) (fun x x1 x2 => by omega)
    refine wa_iload_n dX12_rules_37 rfl ?_
    refine wa_aload_n dX12_rules_38 rfl ?_
    refine wt_getI dX12_rules_39 FX12_216 (by assumption) ?_
    try first | rw [e12] | skip
    refine wa_icmp_ge 72 dX12_rules_42 (by decide) (by exact ⟨by omega, by omega⟩) (by exact ⟨by omega, by omega⟩) (fun c_42 => ?_) (fun c_42 => ?_)
    · exact this
    · omega
  | succ j ih =>
    intro k J hk e kk
    have e12 : J 168 12 = (w.length : Int) := by rw [e 168 (by decide)]; exact h12
    have e7 : J 177 k = w.getD k 0 := by rw [e 177 (by decide)]; exact h7 k (by omega)
    have rg := hI0 177 k
    rw [h7 k (by omega)] at rg
    have nx := ih (k + 1) (va_up J 169 (va_up (J 169) (264 + 120 * r + k) (w.getD k 0))) (by omega) (fun a ha => by rw [vup_n ha]; exact e a ha) (fun K k1 k2 k3 => kk K k1 (fun x hx => by rw [k2 x (by omega), vup_s, vup_n (by omega)]) (fun x x1 x2 => by
      by_cases z : x = k
      · rw [z, k2 _ (by omega), vup_s, vup_s]
      · exact k3 x (by omega) x2))
    refine wa_iload_n dX12_rules_37 rfl ?_
    refine wa_aload_n dX12_rules_38 rfl ?_
    refine wt_getI dX12_rules_39 FX12_216 (by assumption) ?_
    try first | rw [e12] | rw [e7] | skip
    refine wa_icmp_ge 72 dX12_rules_42 (by decide) (by first | exact rg | exact ⟨by omega, by omega⟩) (by first | exact rg | exact ⟨by omega, by omega⟩) (fun c_42 => ?_) (fun c_42 => ?_)
    · omega
    · refine wa_aload_n dX12_rules_45 rfl ?_
      refine wt_getR dX12_rules_46 FX12_7 (by assumption) (by assumption) ?_
      refine wa_sipush dX12_rules_49 rfl ?_
      refine wa_bipush dX12_rules_52 rfl ?_
      refine wa_iload_n dX12_rules_54 rfl ?_
      refine wa_imul dX12_rules_55 ?_
      refine wa_iadd dX12_rules_56 ?_
      refine wa_iload_n dX12_rules_57 rfl ?_
      refine wa_iadd dX12_rules_58 ?_
      refine wa_aload_n dX12_rules_59 rfl ?_
      refine wt_getR dX12_rules_60 FX12_34 (by assumption) (by assumption) ?_
      refine wa_iload_n dX12_rules_63 rfl ?_
      refine wt_iald k dX12_rules_64 (by assumption) rfl (by omega) ?_
      try first | rw [e12] | rw [e7] | skip
      refine wt_iast (264 + 120 * r + k) dX12_rules_65 (by assumption) (by omega) (by omega) (by first | exact rg | exact ⟨by omega, by omega⟩) ?_
      refine wa_iinc dX12_rules_66 rfl (by decide) ?_
      refine wa_goto 37 dX12_rules_69 (by decide) ?_
      exact nx
set_option maxRecDepth 20000 in
theorem c_mrules (hL : LX S) {r : Nat} (hr : r < 6) {w v : List Int} (hw : w.length + v.length ≤ 120) (h1 : I 169 1 = (r : Int)) (h12 : I 168 12 = (w.length : Int)) (h14 : I 168 14 = (v.length : Int)) (h7 : ∀ k, k < w.length → I 177 k = w.getD k 0) (h8 : ∀ k, k < v.length → I 178 k = v.getD k 0) : tmC yX12_rules kX12_rules 1 0 0 [tR 168] (S, I, L) (fun q h' => q = none ∧ ∃ K, h' = (S, K, L) ∧ RuF I K r w v) := by
  refine tmC.mk (lv := [some (tR 168), none, none]) 2 ⟨rfl, by decide +kernel, by decide⟩ rfl rfl ?_
  refine wt_ir (fun hI => ?_)
  have o168 := oX168 hL
  have r168_0 := rX168_0 hL
  have r168_1 := rX168_1 hL
  have r168_3 := rX168_3 hL
  have r168_4 := rX168_4 hL
  have r168_5 := rX168_5 hL
  have r168_6 := rX168_6 hL
  have r168_7 := rX168_7 hL
  have r168_8 := rX168_8 hL
  have r168_11 := rX168_11 hL
  have r168_13 := rX168_13 hL
  have r168_17 := rX168_17 hL
  have r168_18 := rX168_18 hL
  have r168_19 := rX168_19 hL
  have r168_21 := rX168_21 hL
  have r168_22 := rX168_22 hL
  have r168_23 := rX168_23 hL
  have r168_24 := rX168_24 hL
  have r168_25 := rX168_25 hL
  have r168_26 := rX168_26 hL
  have r168_27 := rX168_27 hL
  have r168_28 := rX168_28 hL
  have r168_29 := rX168_29 hL
  have r168_30 := rX168_30 hL
  have o169 := oX169 hL
  generalize hV : va_up I 169 (va_up (va_up (I 169) (252 + r) (w.length : Int)) (258 + r) (v.length : Int)) = V
  have gV : ∀ a, a ≠ 169 → V a = I a := fun a ha => by rw [← hV, vup_n ha]
  have v252 : V 169 (252 + r) = (w.length : Int) := by rw [← hV, vup_s, vup_n (by omega), vup_s]
  have v258 : V 169 (258 + r) = (v.length : Int) := by rw [← hV, vup_s, vup_s]
  have vx : ∀ x, x ≠ 252 + r → x ≠ 258 + r → V 169 x = I 169 x := fun x x1 x2 => by rw [← hV, vup_s, vup_n x2, vup_n x1]
  have e12 : ∀ f : Nat → Int, va_up I 169 f 168 12 = (w.length : Int) := fun f => by rw [vup_n (by decide)]; exact h12
  have e14 : ∀ f : Nat → Int, va_up I 169 f 168 14 = (v.length : Int) := fun f => by rw [vup_n (by decide)]; exact h14
  have r1 := rules_1 (I := I) (L := L) hL hr hw hI h12 h7 (fun q h' => q = none ∧ ∃ K, h' = (S, K, L) ∧ RuF I K r w v) w.length 0 V (by omega) gV (fun K k1 k2 k3 => by
    have r2 := (rules_2 (I := I) (L := L) hL hr hw hI h12 h14 h8 v.length 0 K (by omega) k1 (by rw [k2 1 (by omega), vx 1 (by omega) (by omega)]; exact h1)).wk (Q2 := fun q h' => q = none ∧ ∃ K, h' = (S, K, L) ∧ RuF I K r w v) (fun q h' hq => by
      obtain ⟨rfl, M, rfl, m1, m2, m3, m4⟩ := hq
      refine ⟨rfl, M, rfl, m1, fun x x1 x2 x3 x4 => by rw [m3 x x1 (by omega), k2 x (by omega)]; exact vx x x2 x3, m2, by rw [m3 _ (by omega) (by omega), k2 _ (by omega)]; exact v252, by rw [m3 _ (by omega) (by omega), k2 _ (by omega)]; exact v258, fun x hx => by rw [m3 _ (by omega) (by omega)]; exact k3 x (by omega) hx, fun x hx => m4 x (by omega) hx⟩)
    refine wa_iconst dX12_rules_72 ?_
    refine wa_istore_n dX12_rules_73 (by decide) ?_
    exact r2
    )
  refine wa_aload_n dX12_rules_0 rfl ?_
  refine wt_getR dX12_rules_1 FX12_7 (by assumption) (by assumption) ?_
  refine wa_iconst dX12_rules_4 ?_
  refine wt_iald 1 dX12_rules_5 (by assumption) rfl (by omega) ?_
  try first | rw [h1] | rw [h12] | rw [e14] | skip
  refine wa_istore_n dX12_rules_6 (by decide) ?_
  refine wa_aload_n dX12_rules_7 rfl ?_
  refine wt_getR dX12_rules_8 FX12_7 (by assumption) (by assumption) ?_
  refine wa_sipush dX12_rules_11 rfl ?_
  refine wa_iload_n dX12_rules_14 rfl ?_
  refine wa_iadd dX12_rules_15 ?_
  refine wa_aload_n dX12_rules_16 rfl ?_
  refine wt_getI dX12_rules_17 FX12_216 (by assumption) ?_
  try first | rw [h1] | rw [h12] | rw [e14] | skip
  refine wt_iast (252 + r) dX12_rules_20 (by assumption) (by omega) (by omega) (by exact ⟨by omega, by omega⟩) ?_
  refine wa_aload_n dX12_rules_21 rfl ?_
  refine wt_getR dX12_rules_22 FX12_7 (by assumption) (by assumption) ?_
  refine wa_sipush dX12_rules_25 rfl ?_
  refine wa_iload_n dX12_rules_28 rfl ?_
  refine wa_iadd dX12_rules_29 ?_
  refine wa_aload_n dX12_rules_30 rfl ?_
  refine wt_getI dX12_rules_31 FX12_219 (by assumption) ?_
  try first | rw [h1] | rw [h12] | rw [e14] | skip
  refine wt_iast (258 + r) dX12_rules_34 (by assumption) (by omega) (by omega) (by exact ⟨by omega, by omega⟩) ?_
  rw [vup_s, vup_vup, hV]
  refine wa_iconst dX12_rules_35 ?_
  refine wa_istore_n dX12_rules_36 (by decide) ?_
  exact r1
end S99zf
