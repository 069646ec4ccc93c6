/-! ===== 79: TriggerMatches: refuse, keep, settleAll ===== -/
def aRf (A : AS) (j : Nat) : AS := (A.1, A.2.1, A.2.2.1, va_up A.2.2.2.1 j (A.2.2.2.1 j + 1), A.2.2.2.2.1, A.2.2.2.2.2.1, A.2.2.2.2.2.2)
def aNow (A : AS) (st : TS × RuL) : AS := (st, A.2)
def keepL (past : List (TS × RuL)) (st : TS × RuL) : List (TS × RuL) := if past.length < 8 then past ++ [st] else past.drop 1 ++ [st]
def aKeep (A : AS) : AS := (A.1, keepL A.2.1 A.1, A.2.2)
abbrev CPost (S : tmS) (I : Nat → Nat → Int) (m : Nat) (v : tmV) (A : AS) : Option tmV → tmH → Prop := fun q h' => q = some v ∧ ∃ S' I' L', h' = (S', I', L') ∧ CR S' I' L' m A ∧ MFr S I S' I'
section S79
variable {S : tmS} {I : Nat → Nat → Int} {L : Nat → Nat → Int64}
theorem c_refuse (hL : LX S) {j : Nat} (hj : j < 3) (h0 : 0 ≤ I 167 j ∧ I 167 j ≤ 100000) : tmC yX11_refuse kX11_refuse 1 0 0 [tR 0, tI (-2 - (j : Int))] (S, I, L) (tmF (some (tI (-2 - (j : Int)))) (S, va_up I 167 (va_up (I 167) j (I 167 j + 1)), L)) := by
  refine tmC.mk (lv := [some (tR 0), some (tI (-2 - (j : Int))), none]) 1 ⟨rfl, by decide +kernel, by decide⟩ rfl rfl ?_
  have o0 := oX0 hL
  have r0_0 := rX0_0 hL
  have r0_1 := rX0_1 hL
  have r0_2 := rX0_2 hL
  have r0_3 := rX0_3 hL
  have r0_4 := rX0_4 hL
  have r0_5 := rX0_5 hL
  have r0_6 := rX0_6 hL
  have r0_7 := rX0_7 hL
  have r0_8 := rX0_8 hL
  have o167 := oX167 hL
  refine wa_bipush dX11_refuse_0 rfl ?_
  refine wa_iload_n dX11_refuse_2 rfl ?_
  refine wa_isub dX11_refuse_3 ?_
  refine wa_istore_n dX11_refuse_4 (by decide) ?_
  refine wa_iload_n dX11_refuse_5 rfl ?_
  refine wa_if_lt 28 dX11_refuse_6 (by decide) (by exact ⟨by omega, by omega⟩) (fun c_6 => ?_) (fun c_6 => ?_)
  · omega
  · refine wa_iload_n dX11_refuse_9 rfl ?_
    refine wa_aload_n dX11_refuse_10 rfl ?_
    refine wt_getR dX11_refuse_11 FX11_77 (by assumption) (by assumption) ?_
    refine wt_alen dX11_refuse_14 (by assumption) (by first | exact Or.inl rfl | exact Or.inr rfl) ?_
    refine wa_icmp_ge 28 dX11_refuse_15 (by decide) (by exact ⟨by omega, by omega⟩) (by exact ⟨by omega, by omega⟩) (fun c_15 => ?_) (fun c_15 => ?_)
    · omega
    · refine wa_aload_n dX11_refuse_18 rfl ?_
      refine wt_getR dX11_refuse_19 FX11_77 (by assumption) (by assumption) ?_
      refine wa_iload_n dX11_refuse_22 rfl ?_
      refine wa_dup2 dX11_refuse_23 rfl rfl ?_
      refine wt_iald j dX11_refuse_24 (by assumption) (by omega) (by omega) ?_
      refine wa_iconst dX11_refuse_25 ?_
      refine wa_iadd dX11_refuse_26 ?_
      refine wt_iast j dX11_refuse_27 (by assumption) (by omega) (by omega) (by exact ⟨by omega, by omega⟩) ?_
      refine wa_iload_n dX11_refuse_28 rfl ?_
      refine wa_ireturn dX11_refuse_29 rfl ?_
      exact ⟨rfl, rfl⟩
theorem CR.refuse {m : Nat} {A : AS} (h : CR S I L m A) {j : Nat} (hj : j < 3) : CR S (va_up I 167 (va_up (I 167) j (I 167 j + 1))) L (m + 1) (aRf A j) ∧ MFr S I S (va_up I 167 (va_up (I 167) j (I 167 j + 1))) := by
  obtain ⟨h1, h2, h3, h4, h5⟩ := h
  have pf : PatFr S I S (va_up I 167 (va_up (I 167) j (I 167 j + 1))) := ⟨Nat.le_refl _, fun a a1 _ => ⟨rfl, rfl, rfl, vup_n (by omega)⟩⟩
  refine ⟨⟨h1, h2.fr pf (fun _ _ => rfl) (fun a ha => vup_n (by omega)) rfl, h3.fr pf (fun a a1 a2 => vup_n (by omega)) (fun _ _ _ => rfl), h4, ?_⟩, fun a a1 a2 => vup_n (by omega)⟩
  obtain ⟨k1, k2, k3, k4, k5, k6⟩ := h5
  refine ⟨by rw [vup_n (by decide)]; exact k1, by rw [vup_n (by decide)]; exact k2, fun i hi => ?_, fun i hi => by rw [vup_n (by decide)]; exact k4 i hi, by rw [vup_n (by decide), vup_n (by decide)]; exact k5, by rw [vup_n (by decide)]; exact k6⟩
  have := k3 i hi
  rw [vup_s]
  show va_up (I 167) j (I 167 j + 1) i = va_up A.2.2.2.1 j (A.2.2.2.1 j + 1) i ∧ 0 ≤ va_up A.2.2.2.1 j (A.2.2.2.1 j + 1) i ∧ va_up A.2.2.2.1 j (A.2.2.2.1 j + 1) i ≤ ((m + 1 : Nat) : Int)
  by_cases e : i = j
  · subst e; rw [vup_s, vup_s]; omega
  · rw [vup_n e, vup_n e]; omega
theorem c_refuseA {m : Nat} {A : AS} (h : CR S I L m A) (hm : m ≤ 1000) {j : Nat} (hj : j < 3) : tmC yX11_refuse kX11_refuse 1 0 0 [tR 0, tI (-2 - (j : Int))] (S, I, L) (CPost S I (m + 1) (tI (-2 - (j : Int))) (aRf A j)) := by
  have hb := h.2.2.2.2.2.2.1 j hj
  refine (c_refuse h.1 hj (by omega)).weaken (fun q h' hq => ?_)
  obtain ⟨rfl, rfl⟩ := hq
  exact ⟨rfl, _, _, _, rfl, h.refuse hj⟩
/-- the state is kept -/
theorem CR.keep {m : Nat} {A : AS} (h : CR S I L m A) {k : Nat} (hk : I 14 1 = (k : Int)) (hk9 : k < 9) {R' : Nat → Nat → Option Nat} {I' : Nat → Nat → Int} (hq : KeepR I I' S.2.2.2 R' k A.2.1.length) : CR (S.1, S.2.1, S.2.2.1, R') I' L m (aKeep A) ∧ MFr S I (S.1, S.2.1, S.2.2.1, R') I' := by
  obtain ⟨h1, h2, h3, h4, h5⟩ := h
  obtain ⟨q1, q2, q3, q4, q5, q6, q7, q8⟩ := hq
  have pf : PatFr S I (S.1, S.2.1, S.2.2.1, R') I' := ⟨Nat.le_refl _, fun a a1 _ => ⟨rfl, rfl, q8 a (by omega), q6 a (by omega) (by omega)⟩⟩
  obtain ⟨k', p1, p2, p3, p4, p5⟩ := h3
  obtain rfl : k' = k := by omega
  refine ⟨⟨h1.cp hk9 q8, h2.fr pf (fun r _ => by rw [show (S.1, S.2.1, S.2.2.1, R').2.2.2 = R' from rfl, q8 8 (by omega)]) (fun a ha => q6 a (by omega) (by omega)) rfl, ?_, ⟨?_, ?_⟩, h5.fr (Nat.le_refl _) (fun a ha => q6 a (by omega) (by omega)) (by rw [q6 155 (by omega) (by omega)]) ?_⟩, fun a a1 a2 => q6 a (by omega) (by omega)⟩
  · have hnow : StC (S.1, S.2.1, S.2.2.1, R') I' (16 + 13 * k') A.1 := by
      have hs : StC S I 1 A.1 := ⟨h2.1, h2.2.2.2.2.1⟩
      have h50 := h2.2.1.1.1
      exact hs.fr pf q3 (by rw [show 16 + 13 * k' + 1 = 17 + 13 * k' by omega]; exact q4) (fun i i1 i2 t ht => by rw [show 16 + 13 * k' + 1 + i = 17 + 13 * k' + i by omega]; exact q5 i i1 i2 t (by omega)) (fun q hq => by rw [show 16 + 13 * k' + 7 = 23 + 13 * k' by omega]; exact q7 q hq)
    have old : ∀ (s : Nat) (st : TS × RuL), s < 9 → s ≠ k' → StC S I (16 + 13 * s) st → StC (S.1, S.2.1, S.2.2.1, R') I' (16 + 13 * s) st := fun s st s1 s2 hs => hs.fr pf (by rw [q6 _ (by omega) (by omega)]) (by rw [q6 _ (by omega) (by omega)]) (fun i i1 i2 t _ => by rw [q6 _ (by omega) (by omega)]) (fun q _ => by rw [show (S.1, S.2.1, S.2.2.1, R').2.2.2 = R' from rfl, q8 _ (by omega)])
    show PastR _ _ (keepL A.2.1 A.1)
    unfold keepL
    by_cases c : A.2.1.length < 8
    · rw [if_pos c] at q2 ⊢
      refine ⟨(k' + 1) % 9, q1, Nat.mod_lt _ (by decide), by rw [q2]; simp, by simp; omega, fun i st hi => ?_⟩
      rw [List.length_append, List.length_singleton]
      by_cases ci : i < A.2.1.length
      · rw [List.getElem?_append_left ci] at hi
        obtain ⟨a, b⟩ := p5 i st hi
        refine ⟨?_, b⟩
        rw [show ((k' + 1) % 9 + 9 - (A.2.1.length + 1) + i) % 9 = (k' + 9 - A.2.1.length + i) % 9 by omega]
        exact old _ st (Nat.mod_lt _ (by decide)) (by omega) a
      · rw [List.getElem?_append_right (by omega)] at hi
        have e0 : i - A.2.1.length = 0 := by
          by_cases z : i - A.2.1.length = 0
          · exact z
          · rw [List.getElem?_eq_none (by simp; omega)] at hi; cases hi
        rw [e0] at hi
        simp only [List.getElem?_cons_zero, Option.some.injEq] at hi
        subst hi
        rw [show ((k' + 1) % 9 + 9 - (A.2.1.length + 1) + i) % 9 = k' by omega]
        exact ⟨hnow, h2.2.1⟩
    · rw [if_neg c] at q2 ⊢
      have e8 : A.2.1.length = 8 := by omega
      have el : (A.2.1.drop 1 ++ [A.1]).length = 8 := by simp; omega
      refine ⟨(k' + 1) % 9, q1, Nat.mod_lt _ (by decide), by rw [q2, el], by omega, fun i st hi => ?_⟩
      rw [el]
      by_cases ci : i < 7
      · rw [List.getElem?_append_left (by simp; omega), List.getElem?_drop] at hi
        obtain ⟨a, b⟩ := p5 (1 + i) st hi
        refine ⟨?_, b⟩
        rw [e8] at a
        rw [show ((k' + 1) % 9 + 9 - 8 + i) % 9 = (k' + 9 - 8 + (1 + i)) % 9 by omega]
        exact old _ st (Nat.mod_lt _ (by decide)) (by omega) a
      · rw [List.getElem?_append_right (by simp; omega)] at hi
        have e0 : i - (A.2.1.drop 1).length = 0 := by
          by_cases z : i - (A.2.1.drop 1).length = 0
          · exact z
          · rw [List.getElem?_eq_none (by simp at z ⊢; omega)] at hi; cases hi
        rw [e0] at hi
        simp only [List.getElem?_cons_zero, Option.some.injEq] at hi
        subst hi
        simp at e0
        rw [show ((k' + 1) % 9 + 9 - 8 + i) % 9 = k' by omega]
        exact ⟨hnow, h2.2.1⟩
  · exact h4.1.fr (Nat.le_refl _) (fun _ _ => rfl) (fun q _ => by rw [show (S.1, S.2.1, S.2.2.1, R').2.2.2 = R' from rfl, q8 _ (by omega)])
  · intro s hs
    by_cases e : s = k'
    · subst e
      exact h4.1.fr (Nat.le_refl _) (fun _ _ => rfl) (fun q hq => by rw [show 16 + 13 * s + 7 = 23 + 13 * s by omega]; exact q7 q hq)
    · exact (h4.2 s hs).fr (Nat.le_refl _) (fun _ _ => rfl) (fun q _ => by rw [show (S.1, S.2.1, S.2.2.1, R').2.2.2 = R' from rfl, q8 _ (by omega)])
  · obtain ⟨d, hd⟩ := h5.2.2.2.2.2
    exact ⟨d, by rw [q6 155 (by omega) (by omega)]; exact hd⟩
theorem c_keepA {m : Nat} {A : AS} (h : CR S I L m A) : tmC yX7_keep kX7_keep 5 0 0 [tR 14, tR 1] (S, I, L) (fun q h' => q = none ∧ ∃ S' I', h' = (S', I', L) ∧ CR S' I' L m (aKeep A) ∧ MFr S I S' I' ∧ (∀ a, (a < 14 ∨ 133 ≤ a) → I' a = I a) ∧ S'.1 = S.1 ∧ (∀ a, (a < 14 ∨ 133 ≤ a) → S'.2.2.2 a = S.2.2.2 a)) := by
  obtain ⟨k, p1, p2, p3, p4, p5⟩ := id h.2.2.1
  refine (c_keep (n := S.1) (C := S.2.1) (N := S.2.2.1) (R := S.2.2.2) h.1 h.2.2.2.1.1 p1 p2 p3 p4).weaken (fun q h' hq => ?_)
  obtain ⟨rfl, R', I', rfl, hk⟩ := hq
  obtain ⟨a, b⟩ := h.keep p1 p2 hk
  exact ⟨rfl, _, I', rfl, a, b, fun a ha => hk.2.2.2.2.2.1 a (by omega) (by omega), rfl, fun a ha => hk.2.2.2.2.2.2.2 a (by omega)⟩
/-- what settleAll leaves -/
def SaR (I I' : Nat → Nat → Int) (Y : TS) : Prop := (∀ a, a ≠ 7 → a ≠ 133 → a ≠ 134 → a ≠ 135 → a ≠ 143 → I' a = I a) ∧ RowsEq I' 2 (clX Y) ∧ TabOK Y.1 (I' 3) (I' 4) (I' 5) (I' 7) (I' 134) ∧ (∃ us, PlOK I' us) ∧ I' 143 3 = -1
theorem c_settleAll (hL : LX S) {Y : TS} (hr : RowsEq I 2 Y) (hY : TsOK Y) {us : Nat} (hp : PlOK I us) : tmC yX11_settleAll kX11_settleAll 6 0 0 [tR 0] (S, I, L) (fun q h' => q = none ∧ ∃ I', h' = (S, I', L) ∧ SaR I I' Y) := by
  refine tmC.mk (lv := [some (tR 0)]) 0 ⟨rfl, by decide +kernel, by decide⟩ rfl rfl ?_
  have o0 := oX0 hL
  have r0_0 := rX0_0 hL
  have r0_1 := rX0_1 hL
  have r0_2 := rX0_2 hL
  have r0_3 := rX0_3 hL
  have r0_4 := rX0_4 hL
  have r0_5 := rX0_5 hL
  have r0_6 := rX0_6 hL
  have r0_7 := rX0_7 hL
  have r0_8 := rX0_8 hL
  have o1 := oX1 hL
  have r1_0 := rX1_0 hL
  have r1_1 := rX1_1 hL
  have r1_3 := rX1_3 hL
  have o2 := oX2 hL
  have r2_1 := rX2_1 hL
  have r2_2 := rX2_2 hL
  have r2_3 := rX2_3 hL
  have r2_4 := rX2_4 hL
  have r2_5 := rX2_5 hL
  have o133 := oX133 hL
  have r133_0 := rX133_0 hL
  have r133_1 := rX133_1 hL
  have r133_3 := rX133_3 hL
  have r133_5 := rX133_5 hL
  have r133_6 := rX133_6 hL
  have r133_7 := rX133_7 hL
  have o143 := oX143 hL
  have r143_0 := rX143_0 hL
  have r143_1 := rX143_1 hL
  have r143_2 := rX143_2 hL
  have r143_4 := rX143_4 hL
  have r143_5 := rX143_5 hL
  have r143_6 := rX143_6 hL
  have hy := hY.cg hr.ts
  have hs := c_settle (I := I) (L := L) hL hr.1 hy.1 hy.2.1 hy.2.2.1 hp
  have rest : ∀ V : Nat → Nat → Int, StR Y.1 I V → tmW kX11_settleAll 6 0 0 14 [some (tR 0)] [] (S, V, L) (fun q h' => q = none ∧ ∃ I', h' = (S, I', L) ∧ SaR I I' Y) := by
    intro V hV
    have hf := c_forget (I := V) (L := L) hL
    obtain ⟨v1, v2, ⟨us', v3⟩, v4⟩ := hV
    have fin : SaR I (va_up V 143 (va_up (V 143) 3 (-1))) Y := by
      have e : ∀ a, a ≠ 143 → va_up V 143 (va_up (V 143) 3 (-1)) a = V a := fun a ha => vup_n ha
      have e3 : V 3 = I 3 := v1 3 (by decide) (by decide) (by decide) (by decide)
      have e4 : V 4 = I 4 := v1 4 (by decide) (by decide) (by decide) (by decide)
      have e5 : V 5 = I 5 := v1 5 (by decide) (by decide) (by decide) (by decide)
      have e6 : V 6 = I 6 := v1 6 (by decide) (by decide) (by decide) (by decide)
      have hcl := (clX_eq hr.ts (g := V 7) v2).1
      refine ⟨fun a a1 a2 a3 a4 a5 => by rw [e a a5]; exact v1 a a1 a2 a3 a4, ⟨by rw [e 2 (by decide), v1 2 (by decide) (by decide) (by decide) (by decide)]; exact hr.1, fun t ht => ?_⟩, ?_, ⟨us', ?_⟩, by rw [vup_s, vup_s]⟩
      · have := hcl.2 t ht
        rw [e 3 (by decide), e 4 (by decide), e 5 (by decide), e 6 (by decide), e 7 (by decide), e3, e4, e5, e6]
        exact this
      · rw [e 3 (by decide), e 4 (by decide), e 5 (by decide), e 7 (by decide), e 134 (by decide), e3, e4, e5]; exact v4
      · unfold PlOK at v3 ⊢
        rw [e 133 (by decide), e 135 (by decide), e 134 (by decide)]; exact v3
    refine wa_aload_n dX11_settleAll_14 rfl ?_
    refine wt_getR dX11_settleAll_15 FX11_48 (by assumption) (by assumption) ?_
    refine wa_callVf (ci := 4) dX11_settleAll_18 KX4_forget LX11_200 ⟨_, _, rfl, by decide⟩ o143 (hf) (by decide) rfl rfl (Nat.le_of_ble_eq_true rfl) rfl rfl ?_
    refine wa_return dX11_settleAll_21 rfl ?_
    exact ⟨rfl, _, rfl, fin⟩
  refine wa_aload_n dX11_settleAll_0 rfl ?_
  refine wt_getR dX11_settleAll_1 FX11_26 (by assumption) (by assumption) ?_
  refine wa_aload_n dX11_settleAll_4 rfl ?_
  refine wt_getR dX11_settleAll_5 FX11_10 (by assumption) (by assumption) ?_
  refine wt_getR dX11_settleAll_8 FX11_32 (by assumption) (by assumption) ?_
  refine wa_callV (ci := 5) dX11_settleAll_11 KX5_settle LX11_256 ⟨_, _, rfl, by decide⟩ o133 (hs) (by decide) rfl (Nat.le_of_ble_eq_true rfl) rfl rfl (fun r h' hq => ?_)
  obtain ⟨rfl, V, rfl, hV⟩ := hq
  exact rest V hV
theorem SaR.now {I' : Nat → Nat → Int} {Y : TS} {rl : RuL} (h : SaR I I' Y) (hY : TsOK Y) (hr : RulesAt S I 1 rl) : NowR S I' L (clX Y) rl := by
  obtain ⟨h1, h2, h3, h4, h5⟩ := h
  refine ⟨h2, clX_ok hY, h3, h4, hr.pf ⟨Nat.le_refl _, fun a a1 _ => ⟨rfl, rfl, rfl, h1 a (by omega) (by omega) (by omega) (by omega) (by omega)⟩⟩ (by rw [h1 1 (by decide) (by decide) (by decide) (by decide) (by decide)]) (fun _ _ => rfl), fun r _ hc => ?_⟩
  rw [h5] at hc
  omega
end S79
