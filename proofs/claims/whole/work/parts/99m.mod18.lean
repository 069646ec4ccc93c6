/-! ===== 99m: the reference: drop ===== -/
/-- RULES behind r have moved down, up to k1, k2, m -/
def fE (f : Nat → Int) (r k1 k2 m : Nat) : Nat → Int := fun a => if 252 + r ≤ a ∧ a < 252 + k1 then f (a + 1) else if 258 + r ≤ a ∧ a < 258 + k2 then f (a + 1) else if 264 + 120 * r ≤ a ∧ a < 264 + m then f (a + 120) else f a
set_option maxRecDepth 20000 in
theorem fE_0 {f : Nat → Int} {r : Nat} : fE f r r r (120 * r) = f := by
  funext a; unfold fE; rw [if_neg (by omega), if_neg (by omega), if_neg (by omega)]
set_option maxRecDepth 20000 in
theorem fE_1 {f : Nat → Int} {r k k2 m : Nat} (h : r ≤ k) (h5 : k ≤ 5) : va_up (fE f r k k2 m) (252 + k) (f (252 + k + 1)) = fE f r (k + 1) k2 m := by
  funext a; unfold fE
  by_cases e : a = 252 + k
  · subst e; rw [vup_s, if_pos (by omega)]
  · rw [vup_n e]
    by_cases z : 252 + r ≤ a ∧ a < 252 + k
    · rw [if_pos z, if_pos (by omega)]
    · rw [if_neg z, if_neg (show ¬ (252 + r ≤ a ∧ a < 252 + (k + 1)) by omega)]
set_option maxRecDepth 20000 in
theorem fE_2 {f : Nat → Int} {r k1 k m : Nat} (h : r ≤ k) (h5 : k1 ≤ 6) : va_up (fE f r k1 k m) (258 + k) (f (258 + k + 1)) = fE f r k1 (k + 1) m := by
  funext a; unfold fE
  by_cases e : a = 258 + k
  · subst e; rw [vup_s, if_neg (by omega), if_pos (by omega)]
  · rw [vup_n e]
    by_cases y : 252 + r ≤ a ∧ a < 252 + k1
    · rw [if_pos y, if_pos y]
    · rw [if_neg y, if_neg y]
      by_cases z : 258 + r ≤ a ∧ a < 258 + k
      · rw [if_pos z, if_pos (by omega)]
      · rw [if_neg z, if_neg (show ¬ (258 + r ≤ a ∧ a < 258 + (k + 1)) by omega)]
set_option maxRecDepth 20000 in
theorem fE_3 {f : Nat → Int} {r k1 k2 m : Nat} (h : 120 * r ≤ m) (h1 : k1 ≤ 6) (h2 : k2 ≤ 6) : va_up (fE f r k1 k2 m) (264 + m) (f (264 + m + 120)) = fE f r k1 k2 (m + 1) := by
  funext a; unfold fE
  by_cases e : a = 264 + m
  · subst e; rw [vup_s, if_neg (by omega), if_neg (by omega), if_pos (by omega)]
  · rw [vup_n e]
    by_cases y : 252 + r ≤ a ∧ a < 252 + k1
    · rw [if_pos y, if_pos y]
    · rw [if_neg y, if_neg y]
      by_cases x : 258 + r ≤ a ∧ a < 258 + k2
      · rw [if_pos x, if_pos x]
      · rw [if_neg x, if_neg x]
        by_cases z : 264 + 120 * r ≤ a ∧ a < 264 + m
        · rw [if_pos z, if_pos (by omega)]
        · rw [if_neg z, if_neg (show ¬ (264 + 120 * r ≤ a ∧ a < 264 + (m + 1)) by omega)]
set_option maxRecDepth 20000 in
theorem fE_lo {f : Nat → Int} {r k1 k2 m a : Nat} (h : a < 252) : fE f r k1 k2 m a = f a := by
  unfold fE; rw [if_neg (by omega), if_neg (by omega), if_neg (by omega)]
set_option maxRecDepth 20000 in
theorem fE_r1 {f : Nat → Int} {r k k2 m : Nat} (h5 : k ≤ 4) : fE f r k k2 m (252 + k + 1) = f (252 + k + 1) := by
  unfold fE; rw [if_neg (by omega), if_neg (by omega), if_neg (by omega)]
set_option maxRecDepth 20000 in
theorem fE_r2 {f : Nat → Int} {r k1 k m : Nat} (h1 : k1 ≤ 6) (h5 : k ≤ 4) : fE f r k1 k m (258 + k + 1) = f (258 + k + 1) := by
  unfold fE; rw [if_neg (by omega), if_neg (by omega), if_neg (by omega)]
set_option maxRecDepth 20000 in
theorem fE_r3 {f : Nat → Int} {r k1 k2 m : Nat} (h1 : k1 ≤ 6) (h2 : k2 ≤ 6) : fE f r k1 k2 m (264 + m + 120) = f (264 + m + 120) := by
  unfold fE; rw [if_neg (by omega), if_neg (by omega), if_neg (by omega)]
set_option maxRecDepth 20000 in
theorem fE_row {f : Nat → Int} {st : TS × RuL} (h : MRow f st) (hv : StV st) {r : Nat} (hr : r < st.2.length) : MRow (va_up (fE f r (st.2.length - 1) (st.2.length - 1) (120 * (st.2.length - 1))) 1 ((st.2.length : Int) - 1)) (st.1, st.2.eraseIdx r) := by
  have h50 := hv.1.1.1
  have h6 := hv.2.1
  have elen : (st.2.eraseIdx r).length = st.2.length - 1 := by rw [List.length_eraseIdx, if_pos hr]
  refine ⟨⟨by rw [vup_n (by decide), fE_lo (by decide)]; exact h.1.1, fun t ht => ?_⟩, by rw [vup_s]; show (st.2.length : Int) - 1 = ((st.2.eraseIdx r).length : Int); rw [elen]; omega, fun i w hw => ?_⟩
  · have ht : t < st.1.1 := ht
    simp (disch := omega) only [vup_n, fE_lo]
    exact h.1.2 t ht
  · have hw : (st.2.eraseIdx r)[i]? = some w := hw
    have hi : i < st.2.length - 1 := by
      rw [← elen]
      by_cases z : i < (st.2.eraseIdx r).length
      · exact z
      · rw [List.getElem?_eq_none (by omega)] at hw; cases hw
    rw [List.getElem?_eraseIdx] at hw
    by_cases c : i < r
    · rw [if_pos c] at hw
      obtain ⟨a, b, c1, d⟩ := h.2.2 i w hw
      obtain ⟨_, _, _, _, o5, _, _⟩ := hv.2.2 w (List.mem_of_getElem? hw)
      have lo : ∀ x, 252 ≤ x → (x < 252 + r ∨ (258 ≤ x ∧ x < 258 + r) ∨ (264 ≤ x ∧ x < 264 + 120 * r)) → va_up (fE f r (st.2.length - 1) (st.2.length - 1) (120 * (st.2.length - 1))) 1 ((st.2.length : Int) - 1) x = f x := fun x h1 h2 => by
        rw [vup_n (by omega)]; unfold fE; rw [if_neg (by omega), if_neg (by omega), if_neg (by omega)]
      exact ⟨by rw [lo _ (by omega) (by omega)]; exact a, by rw [lo _ (by omega) (by omega)]; exact b, fun k hk => by rw [lo _ (by omega) (by omega)]; exact c1 k hk, fun k hk => by rw [lo _ (by omega) (by omega)]; exact d k hk⟩
    · rw [if_neg c] at hw
      obtain ⟨a, b, c1, d⟩ := h.2.2 (i + 1) w hw
      obtain ⟨_, _, _, _, o5, _, _⟩ := hv.2.2 w (List.mem_of_getElem? hw)
      have m1 : va_up (fE f r (st.2.length - 1) (st.2.length - 1) (120 * (st.2.length - 1))) 1 ((st.2.length : Int) - 1) (252 + i) = f (252 + i + 1) := by
        rw [vup_n (by omega)]; unfold fE; rw [if_pos (by omega)]
      have m2 : va_up (fE f r (st.2.length - 1) (st.2.length - 1) (120 * (st.2.length - 1))) 1 ((st.2.length : Int) - 1) (258 + i) = f (258 + i + 1) := by
        rw [vup_n (by omega)]; unfold fE; rw [if_neg (by omega), if_pos (by omega)]
      have m3 : ∀ k, k < 120 → va_up (fE f r (st.2.length - 1) (st.2.length - 1) (120 * (st.2.length - 1))) 1 ((st.2.length : Int) - 1) (264 + 120 * i + k) = f (264 + 120 * (i + 1) + k) := fun k hk => by
        rw [vup_n (by omega)]; unfold fE; rw [if_neg (by omega), if_neg (by omega), if_pos (by omega)]; congr 1; omega
      refine ⟨by rw [m1]; exact a, by rw [m2]; exact b, fun k hk => by rw [m3 k (by omega)]; exact c1 k hk, fun k hk => ?_⟩
      rw [Nat.add_assoc, m3 _ (by omega), ← Nat.add_assoc]; exact d k hk
section S99m
variable {S : tmS} {I : Nat → Nat → Int} {L : Nat → Nat → Int64}
set_option maxRecDepth 20000 in
theorem mdrop_in (hL : LX S) {r k n : Nat} (hrk : r ≤ k) (hk : k + 1 < n) (hn : n ≤ 6) {f : Nat → Int} (Q : Option tmV → tmH → Prop) : ∀ (i j : Nat), j + i = 120 →
    tmW kX12_drop 4 0 0 123 [some (tR 168), some (tI r), some (tI k), some (tI (120 : Nat))] [] (S, va_up I 169 (fE f r (k + 1) (k + 1) (120 * (k + 1))), L) Q →
    tmW kX12_drop 4 0 0 79 [some (tR 168), some (tI r), some (tI k), some (tI j)] [] (S, va_up I 169 (fE f r (k + 1) (k + 1) (120 * k + j)), L) Q := by
  intro i
  have o168 := oX168 hL
  have r168_0 := rX168_0 hL
  have r168_1 := rX168_1 hL
  have r168_3 := rX168_3 hL
  have r168_4 := rX168_4 hL
  have r168_5 := rX168_5 hL
  have r168_6 := rX168_6 hL
  have r168_7 := rX168_7 hL
  have r168_8 := rX168_8 hL
  have r168_11 := rX168_11 hL
  have r168_13 := rX168_13 hL
  have r168_17 := rX168_17 hL
  have r168_18 := rX168_18 hL
  have r168_19 := rX168_19 hL
  have r168_21 := rX168_21 hL
  have r168_22 := rX168_22 hL
  have r168_23 := rX168_23 hL
  have r168_24 := rX168_24 hL
  have r168_25 := rX168_25 hL
  have r168_26 := rX168_26 hL
  have r168_27 := rX168_27 hL
  have r168_28 := rX168_28 hL
  have r168_29 := rX168_29 hL
  have r168_30 := rX168_30 hL
  have o169 := oX169 hL
  induction i with
  | zero =>
    intro j hj kk
    obtain rfl : j = 120 := by omega
    rw [show 120 * (k + 1) = 120 * k + 120 by omega] at kk
    refine wa_iload_n dX12_drop_79 rfl ?_
    refine wa_bipush dX12_drop_80 rfl ?_
    refine wa_icmp_ge 123 dX12_drop_82 (by decide) (by exact ⟨by omega, by omega⟩) (by exact ⟨by omega, by omega⟩) (fun c_82 => ?_) (fun c_82 => ?_)
    · exact kk
    · omega
  | succ i ih =>
    intro j hj kk
    have nx := ih (j + 1) (by omega) kk
    have e3 := fE_3 (f := f) (r := r) (k1 := k + 1) (k2 := k + 1) (m := 120 * k + j) (by omega) (by omega) (by omega)
    have r3 := fE_r3 (f := f) (r := r) (k1 := k + 1) (k2 := k + 1) (m := 120 * k + j) (by omega) (by omega)
    rw [show 120 * k + (j + 1) = 120 * k + j + 1 by omega, ← e3] at nx
    have eg : va_up I 169 (fE f r (k + 1) (k + 1) (120 * k + j)) 169 (264 + (120 * k + j) + 120) = f (264 + (120 * k + j) + 120) := by rw [vup_s]; exact r3
    refine wt_ir (fun hI => ?_)
    have rg := hI 169 (264 + (120 * k + j) + 120)
    rw [eg] at rg
    refine wa_iload_n dX12_drop_79 rfl ?_
    refine wa_bipush dX12_drop_80 rfl ?_
    refine wa_icmp_ge 123 dX12_drop_82 (by decide) (by first | exact rg | exact ⟨by omega, by omega⟩) (by first | exact rg | exact ⟨by omega, by omega⟩) (fun c_82 => ?_) (fun c_82 => ?_)
    · omega
    · refine wa_aload_n dX12_drop_85 rfl ?_
      refine wt_getR dX12_drop_86 FX12_7 (by assumption) (by assumption) ?_
      refine wa_sipush dX12_drop_89 rfl ?_
      refine wa_bipush dX12_drop_92 rfl ?_
      refine wa_iload_n dX12_drop_94 rfl ?_
      refine wa_imul dX12_drop_95 ?_
      refine wa_iadd dX12_drop_96 ?_
      refine wa_iload_n dX12_drop_97 rfl ?_
      refine wa_iadd dX12_drop_98 ?_
      refine wa_aload_n dX12_drop_99 rfl ?_
      refine wt_getR dX12_drop_100 FX12_7 (by assumption) (by assumption) ?_
      refine wa_sipush dX12_drop_103 rfl ?_
      refine wa_bipush dX12_drop_106 rfl ?_
      refine wa_iload_n dX12_drop_108 rfl ?_
      refine wa_iconst dX12_drop_109 ?_
      refine wa_iadd dX12_drop_110 ?_
      refine wa_imul dX12_drop_111 ?_
      refine wa_iadd dX12_drop_112 ?_
      refine wa_iload_n dX12_drop_113 rfl ?_
      refine wa_iadd dX12_drop_114 ?_
      refine wt_iald (264 + (120 * k + j) + 120) dX12_drop_115 (by assumption) (by omega) (by omega) ?_
      rw [eg]
      refine wt_iast (264 + (120 * k + j)) dX12_drop_116 (by assumption) (by omega) (by omega) (by first | exact rg | exact ⟨by omega, by omega⟩) ?_
      rw [vup_s, vup_vup]
      refine wa_iinc dX12_drop_117 rfl (by decide) ?_
      refine wa_goto 79 dX12_drop_120 (by decide) ?_
      exact nx
set_option maxRecDepth 20000 in
theorem mdrop_out (hL : LX S) {r n : Nat} (hn : n ≤ 6) {f : Nat → Int} (hf : f 1 = (n : Int)) (Q : Option tmV → tmH → Prop) : ∀ (i k : Nat) (l3 : Option tmV), r ≤ k → k + 1 + i = n →
    (∀ l3' : Option tmV, tmW kX12_drop 4 0 0 129 [some (tR 168), some (tI r), some (tI (n - 1 : Nat)), l3'] [] (S, va_up I 169 (fE f r (n - 1) (n - 1) (120 * (n - 1))), L) Q) →
    tmW kX12_drop 4 0 0 21 [some (tR 168), some (tI r), some (tI k), l3] [] (S, va_up I 169 (fE f r k k (120 * k)), L) Q := by
  intro i
  have o168 := oX168 hL
  have r168_0 := rX168_0 hL
  have r168_1 := rX168_1 hL
  have r168_3 := rX168_3 hL
  have r168_4 := rX168_4 hL
  have r168_5 := rX168_5 hL
  have r168_6 := rX168_6 hL
  have r168_7 := rX168_7 hL
  have r168_8 := rX168_8 hL
  have r168_11 := rX168_11 hL
  have r168_13 := rX168_13 hL
  have r168_17 := rX168_17 hL
  have r168_18 := rX168_18 hL
  have r168_19 := rX168_19 hL
  have r168_21 := rX168_21 hL
  have r168_22 := rX168_22 hL
  have r168_23 := rX168_23 hL
  have r168_24 := rX168_24 hL
  have r168_25 := rX168_25 hL
  have r168_26 := rX168_26 hL
  have r168_27 := rX168_27 hL
  have r168_28 := rX168_28 hL
  have r168_29 := rX168_29 hL
  have r168_30 := rX168_30 hL
  have o169 := oX169 hL
  have e1 : ∀ k, va_up I 169 (fE f r k k (120 * k)) 169 1 = (n : Int) := fun k => by rw [vup_s, fE_lo (by decide), hf]
  induction i with
  | zero =>
    intro k l3 hrk hk kk
    have := kk l3
    rw [show n - 1 = k by omega] at this
    have ek := e1 k
    refine wa_iload_n dX12_drop_21 rfl ?_
    refine wa_iconst dX12_drop_22 ?_
    refine wa_iadd dX12_drop_23 ?_
    refine wa_aload_n dX12_drop_24 rfl ?_
    refine wt_getR dX12_drop_25 FX12_7 (by assumption) (by assumption) ?_
    refine wa_iconst dX12_drop_28 ?_
    refine wt_iald 1 dX12_drop_29 (by assumption) rfl (by omega) ?_
    try first | rw [ek] | skip
    refine wa_icmp_ge 129 dX12_drop_30 (by decide) (by exact ⟨by omega, by omega⟩) (by exact ⟨by omega, by omega⟩) (fun c_30 => ?_) (fun c_30 => ?_)
    · exact this
    · omega
  | succ i ih =>
    intro k l3 hrk hk kk
    have ek := e1 k
    have inn := mdrop_in (I := I) (L := L) hL (r := r) (k := k) (n := n) hrk (by omega) hn (f := f) Q 120 0 (by omega) (by
      have nx := ih (k + 1) (some (tI (120 : Nat))) (by omega) (by omega) kk
      refine wa_iinc dX12_drop_123 rfl (by decide) ?_
      refine wa_goto 21 dX12_drop_126 (by decide) ?_
      exact nx
      )
    rw [Nat.add_zero, ← fE_2 (k := k) hrk (by omega), ← fE_1 (k := k) (k2 := k) hrk (by omega)] at inn
    have eg1 : va_up I 169 (fE f r k k (120 * k)) 169 (252 + k + 1) = f (252 + k + 1) := by rw [vup_s]; exact fE_r1 (by omega)
    have eg2 : va_up I 169 (va_up (fE f r k k (120 * k)) (252 + k) (f (252 + k + 1))) 169 (258 + k + 1) = f (258 + k + 1) := by rw [vup_s, fE_1 hrk (by omega)]; exact fE_r2 (by omega) (by omega)
    refine wt_ir (fun hI => ?_)
    have rg1 := hI 169 (252 + k + 1)
    rw [eg1] at rg1
    have rg2 : inR (f (258 + k + 1)) := by
      have := hI 169 (258 + k + 1)
      rw [vup_s, fE_r2 (by omega) (by omega)] at this
      exact this
    refine wa_iload_n dX12_drop_21 rfl ?_
    refine wa_iconst dX12_drop_22 ?_
    refine wa_iadd dX12_drop_23 ?_
    refine wa_aload_n dX12_drop_24 rfl ?_
    refine wt_getR dX12_drop_25 FX12_7 (by assumption) (by assumption) ?_
    refine wa_iconst dX12_drop_28 ?_
    refine wt_iald 1 dX12_drop_29 (by assumption) rfl (by omega) ?_
    try first | rw [ek] | skip
    refine wa_icmp_ge 129 dX12_drop_30 (by decide) (by first | exact rg1 | exact rg2 | exact ⟨by omega, by omega⟩) (by first | exact rg1 | exact rg2 | exact ⟨by omega, by omega⟩) (fun c_30 => ?_) (fun c_30 => ?_)
    · omega
    · refine wa_aload_n dX12_drop_33 rfl ?_
      refine wt_getR dX12_drop_34 FX12_7 (by assumption) (by assumption) ?_
      refine wa_sipush dX12_drop_37 rfl ?_
      refine wa_iload_n dX12_drop_40 rfl ?_
      refine wa_iadd dX12_drop_41 ?_
      refine wa_aload_n dX12_drop_42 rfl ?_
      refine wt_getR dX12_drop_43 FX12_7 (by assumption) (by assumption) ?_
      refine wa_sipush dX12_drop_46 rfl ?_
      refine wa_iload_n dX12_drop_49 rfl ?_
      refine wa_iadd dX12_drop_50 ?_
      refine wa_iconst dX12_drop_51 ?_
      refine wa_iadd dX12_drop_52 ?_
      refine wt_iald (252 + k + 1) dX12_drop_53 (by assumption) (by omega) (by omega) ?_
      try first | rw [ek] | skip
      rw [eg1]
      refine wt_iast (252 + k) dX12_drop_54 (by assumption) (by omega) (by omega) (by first | exact rg1 | exact rg2 | exact ⟨by omega, by omega⟩) ?_
      rw [vup_s, vup_vup]
      refine wa_aload_n dX12_drop_55 rfl ?_
      refine wt_getR dX12_drop_56 FX12_7 (by assumption) (by assumption) ?_
      refine wa_sipush dX12_drop_59 rfl ?_
      refine wa_iload_n dX12_drop_62 rfl ?_
      refine wa_iadd dX12_drop_63 ?_
      refine wa_aload_n dX12_drop_64 rfl ?_
      refine wt_getR dX12_drop_65 FX12_7 (by assumption) (by assumption) ?_
      refine wa_sipush dX12_drop_68 rfl ?_
      refine wa_iload_n dX12_drop_71 rfl ?_
      refine wa_iadd dX12_drop_72 ?_
      refine wa_iconst dX12_drop_73 ?_
      refine wa_iadd dX12_drop_74 ?_
      refine wt_iald (258 + k + 1) dX12_drop_75 (by assumption) (by omega) (by omega) ?_
      try first | rw [ek] | skip
      rw [eg2]
      refine wt_iast (258 + k) dX12_drop_76 (by assumption) (by omega) (by omega) (by first | exact rg1 | exact rg2 | exact ⟨by omega, by omega⟩) ?_
      rw [vup_s, vup_vup]
      refine wa_iconst dX12_drop_77 ?_
      refine wa_istore_n dX12_drop_78 (by decide) ?_
      exact inn
set_option maxRecDepth 20000 in
theorem c_mdrop {m : Nat} {A : AS} (hL : LX S) (ha : AOK m A) (hm : m ≤ 1000) (h : MR I A) (t : Int) (ht : inR t) : tmC yX12_drop kX12_drop 4 0 0 [tR 168, tI t] (S, I, L) (MPost S I L (tI (spDrop A t).1) (spDrop A t).2) := by
  refine tmC.mk (lv := [some (tR 168), some (tI t), none, none]) 2 ⟨rfl, by decide +kernel, by decide⟩ rfl rfl ?_
  have o168 := oX168 hL
  have r168_0 := rX168_0 hL
  have r168_1 := rX168_1 hL
  have r168_3 := rX168_3 hL
  have r168_4 := rX168_4 hL
  have r168_5 := rX168_5 hL
  have r168_6 := rX168_6 hL
  have r168_7 := rX168_7 hL
  have r168_8 := rX168_8 hL
  have r168_11 := rX168_11 hL
  have r168_13 := rX168_13 hL
  have r168_17 := rX168_17 hL
  have r168_18 := rX168_18 hL
  have r168_19 := rX168_19 hL
  have r168_21 := rX168_21 hL
  have r168_22 := rX168_22 hL
  have r168_23 := rX168_23 hL
  have r168_24 := rX168_24 hL
  have r168_25 := rX168_25 hL
  have r168_26 := rX168_26 hL
  have r168_27 := rX168_27 hL
  have r168_28 := rX168_28 hL
  have r168_29 := rX168_29 hL
  have r168_30 := rX168_30 hL
  have o169 := oX169 hL
  have hrf := c_mrf0 (L := L) hL ha hm h
  have h6 := ha.1.2.1
  have k1 := c_misRule (I := I) (L := L) hL h.1.2.1 h6 t ht
  have kk := c_mkeeps (L := L) hL ha h
  by_cases c1 : 0 ≤ t ∧ t < A.1.2.length
  · rw [if_pos c1] at k1
    have e : spDrop A t = ((A.1.2.length : Int) - 1, aNow (aKeep A) (A.1.1, A.1.2.eraseIdx t.toNat)) := by unfold spDrop; rw [if_pos c1]
    rw [e]
    obtain ⟨r, rfl⟩ : ∃ r : Nat, t = (r : Int) := ⟨t.toNat, by omega⟩
    rw [Int.toNat_natCast]
    have rest : ∀ J : Nat → Nat → Int, MR J (aKeep A) → CFr I J → tmW kX12_drop 4 0 0 19 [some (tR 168), some (tI r), none, none] [] (S, J, L) (MPost S I L (tI ((A.1.2.length : Int) - 1)) (aNow (aKeep A) (A.1.1, A.1.2.eraseIdx r))) := fun J hJ fJ => by
      have hf : J 169 1 = (A.1.2.length : Int) := hJ.1.2.1
      have row := fE_row (f := J 169) (st := A.1) hJ.1 ha.1 (r := r) (by omega)
      have ot := mdrop_out (I := J) (L := L) hL (r := r) (n := A.1.2.length) h6 (f := J 169) hf (MPost S I L (tI ((A.1.2.length : Int) - 1)) (aNow (aKeep A) (A.1.1, A.1.2.eraseIdx r))) (A.1.2.length - 1 - r) r none (Nat.le_refl _) (by omega) (fun l3 => by
        have e1 : va_up J 169 (fE (J 169) r (A.1.2.length - 1) (A.1.2.length - 1) (120 * (A.1.2.length - 1))) 169 1 = (A.1.2.length : Int) := by rw [vup_s, fE_lo (by decide), hf]
        have fin : MR (va_up J 169 (va_up (fE (J 169) r (A.1.2.length - 1) (A.1.2.length - 1) (120 * (A.1.2.length - 1))) 1 ((A.1.2.length : Int) - 1))) (aNow (aKeep A) (A.1.1, A.1.2.eraseIdx r)) := hJ.now (by rw [vup_s]; exact row) (fun a ha => vup_n (by omega)) (by rw [vup_n (by decide)]) (by rw [vup_n (by decide)])
        have e2 : va_up J 169 (va_up (fE (J 169) r (A.1.2.length - 1) (A.1.2.length - 1) (120 * (A.1.2.length - 1))) 1 ((A.1.2.length : Int) - 1)) 169 1 = (A.1.2.length : Int) - 1 := by rw [vup_s, vup_s]
        refine wa_aload_n dX12_drop_129 rfl ?_
        refine wt_getR dX12_drop_130 FX12_7 (by assumption) (by assumption) ?_
        refine wa_iconst dX12_drop_133 ?_
        refine wa_dup2 dX12_drop_134 rfl rfl ?_
        refine wt_iald 1 dX12_drop_135 (by assumption) rfl (by omega) ?_
        rw [e1]
        refine wa_iconst dX12_drop_136 ?_
        refine wa_isub dX12_drop_137 ?_
        refine wt_iast 1 dX12_drop_138 (by assumption) rfl (by omega) (by exact ⟨by omega, by omega⟩) ?_
        rw [vup_s, vup_vup]
        refine wa_aload_n dX12_drop_139 rfl ?_
        refine wt_getR dX12_drop_140 FX12_7 (by assumption) (by assumption) ?_
        refine wa_iconst dX12_drop_143 ?_
        refine wt_iald 1 dX12_drop_144 (by assumption) rfl (by omega) ?_
        rw [e2]
        refine wa_ireturn dX12_drop_145 rfl ?_
        exact ⟨rfl, _, rfl, fin, fun a ha => by rw [vup_n (by omega)]; exact fJ a ha⟩
        )
      rw [fE_0, vup_self] at ot
      refine wa_iload_n dX12_drop_19 rfl ?_
      refine wa_istore_n dX12_drop_20 (by decide) ?_
      exact ot
    refine wa_aload_n dX12_drop_0 rfl ?_
    refine wa_iload_n dX12_drop_1 rfl ?_
    refine wa_callVf (ci := 12) dX12_drop_2 KX12_isRule LX12_154 ⟨_, _, rfl, by decide⟩ o168 (k1) (by decide) rfl rfl (Nat.le_of_ble_eq_true rfl) rfl rfl ?_
    refine wa_if_ne 15 dX12_drop_5 (by decide) (by exact ⟨by omega, by omega⟩) (fun c_5 => ?_) (fun c_5 => ?_)
    · refine wa_aload_n dX12_drop_15 rfl ?_
      refine wa_callV (ci := 12) dX12_drop_16 KX12_keeps LX12_116 ⟨_, _, rfl, by decide⟩ o168 (kk) (by decide) rfl (Nat.le_of_ble_eq_true rfl) rfl rfl (fun r h' hq => ?_)
      obtain ⟨rfl, J, rfl, j1, j2, _⟩ := hq
      exact rest J j1 j2
    · omega
  · rw [if_neg c1] at k1
    have e : spDrop A t = (-2, aRf A 0) := by unfold spDrop; rw [if_neg c1]
    rw [e]
    refine wa_aload_n dX12_drop_0 rfl ?_
    refine wa_iload_n dX12_drop_1 rfl ?_
    refine wa_callVf (ci := 12) dX12_drop_2 KX12_isRule LX12_154 ⟨_, _, rfl, by decide⟩ o168 (k1) (by decide) rfl rfl (Nat.le_of_ble_eq_true rfl) rfl rfl ?_
    refine wa_if_ne 15 dX12_drop_5 (by decide) (by exact ⟨by omega, by omega⟩) (fun c_5 => ?_) (fun c_5 => ?_)
    · omega
    · refine wa_aload_n dX12_drop_8 rfl ?_
      refine wa_bipush dX12_drop_9 rfl ?_
      refine wa_callV (ci := 12) dX12_drop_11 KX12_refuses LX12_113 ⟨_, _, rfl, by decide⟩ o168 (hrf) (by decide) rfl (Nat.le_of_ble_eq_true rfl) rfl rfl (fun r h' hq => ?_)
      obtain ⟨rfl, hq⟩ := hq
      refine wa_ireturn dX12_drop_14 rfl ?_
      exact ⟨rfl, hq⟩
end S99m
