/-! ===== 99t: the reference: does behind the build (pc 161) ===== -/
section S99t
variable {S : tmS} {I : Nat → Nat → Int} {L : Nat → Nat → Int64}
set_option maxRecDepth 20000 in
theorem mdoes_mid (hL : LX S) {Y : TS} (hM : MT I Y) (hY : TsOK Y) {n : Nat} (hn : n ≤ Y.1) {r k : Int} {b t p : Nat} (hb : b + 5 ≤ 6000) (ht : t < Y.1) (hp : p < Y.1) (hpl : I 186 (b + 3) = (p : Int)) {c0 : Nat} (hc0 : c0 ≤ 50) (hC : ∀ j, j < 5 → 0 ≤ I 173 j ∧ I 173 j ≤ 90000) :
    tmW kX12_does 6 0 0 161 [some (tR 168), some (tI r), some (tI k), some (tI b), some (tI n), some (tI c0), some (tI t), none] [] (S, I, L) (fun q h' => q = some (tI (if n < Y.1 ∨ nCls n (clX (jnX Y t p)).2.2.2.2.2 < c0 then 1 else 0)) ∧ ∃ I', h' = (S, I', L) ∧ MT I' (clX (jnX Y t p)) ∧ (I' 173 0 = I 173 0 + 1 ∧ I' 173 1 = I 173 1 ∧ I' 173 2 = I 173 2 ∧ I' 173 3 = I 173 3 + ((Y.1 : Int) - n) ∧ I' 173 4 = I 173 4 + (if nCls n (clX (jnX Y t p)).2.2.2.2.2 < c0 then 1 else 0)) ∧ (∀ a, a ≠ 169 → a ≠ 173 → I' a = I a) ∧ ∀ x, (x = 1 ∨ 252 ≤ x) → I' 169 x = I 169 x) := by
  have o168 := oX168 hL
  have r168_0 := rX168_0 hL
  have r168_1 := rX168_1 hL
  have r168_3 := rX168_3 hL
  have r168_4 := rX168_4 hL
  have r168_5 := rX168_5 hL
  have r168_6 := rX168_6 hL
  have r168_7 := rX168_7 hL
  have r168_8 := rX168_8 hL
  have r168_11 := rX168_11 hL
  have r168_13 := rX168_13 hL
  have r168_17 := rX168_17 hL
  have r168_18 := rX168_18 hL
  have r168_19 := rX168_19 hL
  have r168_21 := rX168_21 hL
  have r168_22 := rX168_22 hL
  have r168_23 := rX168_23 hL
  have r168_24 := rX168_24 hL
  have r168_25 := rX168_25 hL
  have r168_26 := rX168_26 hL
  have r168_27 := rX168_27 hL
  have r168_28 := rX168_28 hL
  have r168_29 := rX168_29 hL
  have r168_30 := rX168_30 hL
  have o169 := oX169 hL
  have o173 := oX173 hL
  have o186 := oX186 hL
  have h50 := hY.1
  have e0 := hM.1
  have b0 := hC 0 (by decide)
  have b3 := hC 3 (by decide)
  have b4 := hC 4 (by decide)
  have hq := cl_jn hY.2.2.1 ht hp
  have ec : nCls n (clX (jnX (clX Y) t p)).2.2.2.2.2 = nCls n (clX (jnX Y t p)).2.2.2.2.2 := nCls_congr (fun x hx => (hq.2 x (show x < Y.1 by omega)).2.2.2.2)
  generalize hD : va_up (va_up (I 173) 0 (I 173 0 + 1)) 3 (I 173 3 + ((Y.1 : Int) - n)) = D
  have d0 : D 0 = I 173 0 + 1 := by rw [← hD, vup_n (by decide), vup_s]
  have d1 : D 1 = I 173 1 := by rw [← hD, vup_n (by decide), vup_n (by decide)]
  have d2 : D 2 = I 173 2 := by rw [← hD, vup_n (by decide), vup_n (by decide)]
  have d3 : D 3 = I 173 3 + ((Y.1 : Int) - n) := by rw [← hD, vup_s]
  have d4 : D 4 = I 173 4 := by rw [← hD, vup_n (by decide), vup_n (by decide)]
  have oc := clX_ok hY
  have oj := jnX_ok oc.1 (t := t) (u := p) ht hp
  -- behind the second closes
  have st3 : ∀ M : Nat → Nat → Int, MT M (clX (jnX (clX Y) t p)) → (∀ a, a ≠ 169 → M a = va_up I 173 D a) → (∀ x, (x = 1 ∨ 252 ≤ x) → M 169 x = I 169 x) → tmW kX12_does 6 0 0 212 [some (tR 168), some (tI r), some (tI k), some (tI b), some (tI n), some (tI c0), some (tI t), none] [] (S, M, L) (fun q h' => q = some (tI (if n < Y.1 ∨ nCls n (clX (jnX Y t p)).2.2.2.2.2 < c0 then 1 else 0)) ∧ ∃ I', h' = (S, I', L) ∧ MT I' (clX (jnX Y t p)) ∧ (I' 173 0 = I 173 0 + 1 ∧ I' 173 1 = I 173 1 ∧ I' 173 2 = I 173 2 ∧ I' 173 3 = I 173 3 + ((Y.1 : Int) - n) ∧ I' 173 4 = I 173 4 + (if nCls n (clX (jnX Y t p)).2.2.2.2.2 < c0 then 1 else 0)) ∧ (∀ a, a ≠ 169 → a ≠ 173 → I' a = I a) ∧ ∀ x, (x = 1 ∨ 252 ≤ x) → I' 169 x = I 169 x) := fun M m1 m2 m3 => by
    have m173 : M 173 = D := by rw [m2 173 (by decide), vup_s]
    refine mdoes_end hL m1 h50 (n := n) hn hc0 (v := I 173 4) (by rw [m173, d4]) (by omega) _ ?_
    rw [ec]
    refine ⟨rfl, _, rfl, (m1.row (vup_n (by decide))).cg hq.symm', ?_, fun a a1 a2 => by rw [vup_n a2, m2 a a1, vup_n a2], fun x hx => by rw [vup_n (by decide)]; exact m3 x hx⟩
    rw [vup_s, m173]
    exact ⟨by rw [vup_n (by decide)]; exact d0, by rw [vup_n (by decide)]; exact d1, by rw [vup_n (by decide)]; exact d2, by rw [vup_n (by decide)]; exact d3, vup_s⟩
  have st2 : ∀ M : Nat → Nat → Int, MT M (jnX (clX Y) t p) → (∀ a, a ≠ 169 → M a = va_up I 173 D a) → (∀ x, (x = 1 ∨ 252 ≤ x) → M 169 x = I 169 x) → tmW kX12_does 6 0 0 208 [some (tR 168), some (tI r), some (tI k), some (tI b), some (tI n), some (tI c0), some (tI t), none] [] (S, M, L) (fun q h' => q = some (tI (if n < Y.1 ∨ nCls n (clX (jnX Y t p)).2.2.2.2.2 < c0 then 1 else 0)) ∧ ∃ I', h' = (S, I', L) ∧ MT I' (clX (jnX Y t p)) ∧ (I' 173 0 = I 173 0 + 1 ∧ I' 173 1 = I 173 1 ∧ I' 173 2 = I 173 2 ∧ I' 173 3 = I 173 3 + ((Y.1 : Int) - n) ∧ I' 173 4 = I 173 4 + (if nCls n (clX (jnX Y t p)).2.2.2.2.2 < c0 then 1 else 0)) ∧ (∀ a, a ≠ 169 → a ≠ 173 → I' a = I a) ∧ ∀ x, (x = 1 ∨ 252 ≤ x) → I' 169 x = I 169 x) := fun M m1 m2 m3 => by
    have kc := c_mcloses (I := M) (L := L) hL m1 oj
    refine wa_aload_n dX12_does_208 rfl ?_
    refine wa_callV (ci := 12) dX12_does_209 KX12_closes LX12_123 ⟨_, _, rfl, by decide⟩ o168 (kc) (by decide) rfl (Nat.le_of_ble_eq_true rfl) rfl rfl (fun r h' hq => ?_)
    obtain ⟨rfl, N, rfl, n1, n2⟩ := hq
    exact st3 N n1 (fun a ha => by rw [n2.1 a ha]; exact m2 a ha) (fun x hx => by rw [n2.2 x hx]; exact m3 x hx)
  have st1 : ∀ M : Nat → Nat → Int, MT M (clX Y) → (∀ a, a ≠ 169 → M a = va_up I 173 D a) → (∀ x, (x = 1 ∨ 252 ≤ x) → M 169 x = I 169 x) → tmW kX12_does 6 0 0 193 [some (tR 168), some (tI r), some (tI k), some (tI b), some (tI n), some (tI c0), some (tI t), none] [] (S, M, L) (fun q h' => q = some (tI (if n < Y.1 ∨ nCls n (clX (jnX Y t p)).2.2.2.2.2 < c0 then 1 else 0)) ∧ ∃ I', h' = (S, I', L) ∧ MT I' (clX (jnX Y t p)) ∧ (I' 173 0 = I 173 0 + 1 ∧ I' 173 1 = I 173 1 ∧ I' 173 2 = I 173 2 ∧ I' 173 3 = I 173 3 + ((Y.1 : Int) - n) ∧ I' 173 4 = I 173 4 + (if nCls n (clX (jnX Y t p)).2.2.2.2.2 < c0 then 1 else 0)) ∧ (∀ a, a ≠ 169 → a ≠ 173 → I' a = I a) ∧ ∀ x, (x = 1 ∨ 252 ≤ x) → I' 169 x = I 169 x) := fun M m1 m2 m3 => by
    have kj := c_mjoins (I := M) (L := L) hL m1 oc.1 t p ht hp
    have ep : M 186 (b + 3) = (p : Int) := by rw [m2 186 (by decide), vup_n (by decide)]; exact hpl
    refine wa_aload_n dX12_does_193 rfl ?_
    refine wa_iload dX12_does_194 rfl ?_
    refine wa_aload_n dX12_does_196 rfl ?_
    refine wt_getR dX12_does_197 FX12_61 (by assumption) (by assumption) ?_
    refine wa_iload_n dX12_does_200 rfl ?_
    refine wa_iconst dX12_does_201 ?_
    refine wa_iadd dX12_does_202 ?_
    refine wt_iald (b + 3) dX12_does_203 (by assumption) (by omega) (by omega) ?_
    rw [ep]
    refine wa_callV (ci := 12) dX12_does_204 KX12_joins LX12_103 ⟨_, _, rfl, by decide⟩ o168 (kj) (by decide) rfl (Nat.le_of_ble_eq_true rfl) rfl rfl (fun r h' hq => ?_)
    obtain ⟨rfl, N, rfl, n1, n2⟩ := hq
    refine wa_pop dX12_does_207 rfl ?_
    exact st2 N n1 (fun a ha => by rw [n2.1 a ha]; exact m2 a ha) (fun x hx => by rw [n2.2 x hx]; exact m3 x hx)
  have kc := c_mcloses (I := va_up I 173 D) (L := L) hL (hM.row (vup_n (by decide))) hY
  have g3 : va_up I 173 (va_up (I 173) 0 (I 173 0 + 1)) 173 3 = I 173 3 := by rw [vup_s, vup_n (by decide)]
  have g0 : va_up I 173 (va_up (I 173) 0 (I 173 0 + 1)) 169 0 = (Y.1 : Int) := by rw [vup_n (by decide)]; exact e0
  refine wa_aload_n dX12_does_161 rfl ?_
  refine wt_getR dX12_does_162 FX12_22 (by assumption) (by assumption) ?_
  refine wa_iconst dX12_does_165 ?_
  refine wa_dup2 dX12_does_166 rfl rfl ?_
  refine wt_iald 0 dX12_does_167 (by assumption) rfl (by omega) ?_
  refine wa_iconst dX12_does_168 ?_
  refine wa_iadd dX12_does_169 ?_
  refine wt_iast 0 dX12_does_170 (by assumption) rfl (by omega) (by exact ⟨by omega, by omega⟩) ?_
  refine wa_aload_n dX12_does_171 rfl ?_
  refine wt_getR dX12_does_172 FX12_22 (by assumption) (by assumption) ?_
  refine wa_iconst dX12_does_175 ?_
  refine wa_dup2 dX12_does_176 rfl rfl ?_
  refine wt_iald 3 dX12_does_177 (by assumption) rfl (by omega) ?_
  rw [g3]
  refine wa_aload_n dX12_does_178 rfl ?_
  refine wt_getR dX12_does_179 FX12_7 (by assumption) (by assumption) ?_
  refine wa_iconst dX12_does_182 ?_
  refine wt_iald 0 dX12_does_183 (by assumption) rfl (by omega) ?_
  rw [g0]
  refine wa_iload dX12_does_184 rfl ?_
  refine wa_isub dX12_does_186 ?_
  refine wa_iadd dX12_does_187 ?_
  refine wt_iast 3 dX12_does_188 (by assumption) rfl (by omega) (by exact ⟨by omega, by omega⟩) ?_
  rw [vup_s, vup_vup, hD]
  refine wa_aload_n dX12_does_189 rfl ?_
  refine wa_callV (ci := 12) dX12_does_190 KX12_closes LX12_123 ⟨_, _, rfl, by decide⟩ o168 (kc) (by decide) rfl (Nat.le_of_ble_eq_true rfl) rfl rfl (fun r h' hq => ?_)
  obtain ⟨rfl, N, rfl, n1, n2⟩ := hq
  exact st1 N n1 (fun a ha => n2.1 a ha) (fun x hx => by rw [n2.2 x hx, vup_n (by decide)])
end S99t
