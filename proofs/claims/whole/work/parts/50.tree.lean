/-! ===== 50: what a side that is read is like ===== -/
/-- node i of a side from fr on: its parts are ahead of it in the side, its stage is theirs -/
def NdOK (fr may : Nat) (sg on ot st : Nat → Int) (i : Nat) : Prop := 0 ≤ sg i ∧ sg i ≤ 9 ∧ (sg i < 4 ∨ 7 ≤ sg i → on i = -1 ∧ ot i = -1) ∧ (4 ≤ sg i → sg i < 7 → (fr : Int) ≤ on i ∧ on i < i) ∧ (4 ≤ sg i → sg i < 6 → ot i = -1) ∧ (sg i = 6 → (fr : Int) ≤ ot i ∧ ot i < i) ∧ (7 ≤ sg i → may.testBit (sg i - 7).toNat = true) ∧ st i = zStage i st (sg i) (on i) (ot i)
def PtOf (Z : ZS) (j : Nat) : Prop := ∃ i, i < Z.1 ∧ (Z.2.2.1 i = (j : Int) ∨ Z.2.2.2.1 i = (j : Int))
def SdI (fr may dp : Nat) (Z : ZS) (P : Nat → Prop) : Prop := fr ≤ Z.1 ∧ (∀ i, fr ≤ i → i < Z.1 → NdOK fr may Z.2.1 Z.2.2.1 Z.2.2.2.1 Z.2.2.2.2.1 i) ∧ (∀ k, k < dp → (4 ≤ Z.2.2.2.2.2.1 k ∧ Z.2.2.2.2.2.1 k ≤ 6) ∧ (Z.2.2.2.2.2.2.1 k = -1 ∨ (Z.2.2.2.2.2.1 k = 6 ∧ (fr : Int) ≤ Z.2.2.2.2.2.2.1 k ∧ Z.2.2.2.2.2.2.1 k < Z.1))) ∧ ∀ j, fr ≤ j → j < Z.1 → P j ∨ PtOf Z j ∨ ∃ k, k < dp ∧ Z.2.2.2.2.2.2.1 k = (j : Int)
theorem zStage_up {st : Nat → Int} {i m : Nat} (hi : i < m + 1) (v s a b : Int) : zStage i (va_up st m v) s a b = zStage i st s a b := by
  unfold zStage tmStageOf
  have h : ∀ x : Int, (if 0 ≤ x ∧ x < i then va_up st m v x.toNat else 0) = if 0 ≤ x ∧ x < i then st x.toNat else 0 := fun x => by
    by_cases z : 0 ≤ x ∧ x < i
    · rw [if_pos z, if_pos z, vup_n (by omega)]
    · rw [if_neg z, if_neg z]
  rw [h a, h b]
theorem NdOK.up {fr may m : Nat} {sg on ot st : Nat → Int} {i : Nat} (h : NdOK fr may sg on ot st i) (hi : i < m) (s a b v : Int) : NdOK fr may (va_up sg m s) (va_up on m a) (va_up ot m b) (va_up st m v) i := by
  unfold NdOK at h ⊢
  rw [vup_n (by omega : i ≠ m), vup_n (by omega : i ≠ m), vup_n (by omega : i ≠ m), vup_n (by omega : i ≠ m), zStage_up (by omega)]
  exact h
theorem PtOf.up {Z : ZS} {j : Nat} (h : PtOf Z j) (s a b : Int) : PtOf (zAdd Z s a b) j := by
  obtain ⟨i, h1, h2⟩ := h
  refine ⟨i, by simp only [zAdd]; omega, ?_⟩
  simp only [zAdd]
  rw [vup_n (by omega), vup_n (by omega)]; exact h2
/-- a node that fits comes -/
theorem SdI.add {fr may dp : Nat} {Z : ZS} {P P' : Nat → Prop} (h : SdI fr may dp Z P) {s a b : Int} (hnd : 0 ≤ s ∧ s ≤ 9 ∧ (s < 4 ∨ 7 ≤ s → a = -1 ∧ b = -1) ∧ (4 ≤ s → s < 7 → (fr : Int) ≤ a ∧ a < Z.1) ∧ (4 ≤ s → s < 6 → b = -1) ∧ (s = 6 → (fr : Int) ≤ b ∧ b < Z.1) ∧ (7 ≤ s → may.testBit (s - 7).toNat = true)) (hP : ∀ j, fr ≤ j → j < Z.1 → P j → P' j ∨ a = (j : Int) ∨ b = (j : Int)) (hP2 : P' Z.1) : SdI fr may dp (zAdd Z s a b) P' := by
  obtain ⟨h1, h2, h3, h4⟩ := h
  refine ⟨by simp only [zAdd]; omega, fun i i1 i2 => ?_, fun k hk => ?_, fun j j1 j2 => ?_⟩
  · simp only [zAdd] at i2 ⊢
    by_cases z : i = Z.1
    · subst z
      unfold NdOK
      rw [vup_s, vup_s, vup_s, vup_s, zStage_up (by omega)]
      obtain ⟨n1, n2, n3, n4, n5, n6, n7⟩ := hnd
      exact ⟨n1, n2, n3, n4, n5, n6, n7, rfl⟩
    · exact (h2 i i1 (by omega)).up (by omega) _ _ _ _
  · have := h3 k hk
    simp only [zAdd]
    refine ⟨this.1, ?_⟩
    rcases this.2 with h | ⟨x1, x2, x3⟩
    · exact Or.inl h
    · exact Or.inr ⟨x1, x2, by omega⟩
  · simp only [zAdd] at j2
    have newp : (a = (j : Int) ∨ b = (j : Int)) → PtOf (zAdd Z s a b) j := fun h => ⟨Z.1, by simp only [zAdd]; omega, by simp only [zAdd]; rw [vup_s, vup_s]; exact h⟩
    by_cases z : j = Z.1
    · subst z; exact Or.inl hP2
    · rcases h4 j j1 (by omega) with h | h | h
      · rcases hP j j1 (by omega) h with q | q
        · exact Or.inl q
        · exact Or.inr (Or.inl (newp q))
      · exact Or.inr (Or.inl (h.up _ _ _))
      · exact Or.inr (Or.inr h)
theorem SdI.to {fr may dp : Nat} {Z : ZS} {P : Nat → Prop} (h : SdI fr may dp Z P) (p : Nat) : SdI fr may dp (zTo Z p) P := h
theorem cbZ_tree {b : Nat → Int} {n fr may : Nat} : ∀ (dp : Nat) (Z : ZS) (nd : Nat), SdI fr may dp Z (fun j => j = nd) → fr ≤ nd → nd + 1 = Z.1 → (cbZ b n dp Z nd).1 = true → SdI fr may (cbZ b n dp Z nd).2.1 (cbZ b n dp Z nd).2.2 (fun j => (cbZ b n dp Z nd).2.1 = 0 ∧ j + 1 = (cbZ b n dp Z nd).2.2.1) := by
  intro dp
  induction dp with
  | zero =>
    intro Z nd h hf hn _
    obtain ⟨h1, h2, h3, h4⟩ := h
    refine ⟨h1, h2, h3, fun j j1 j2 => ?_⟩
    rcases h4 j j1 j2 with q | q | q
    · exact Or.inl ⟨rfl, by simp only [cbZ]; omega⟩
    · exact Or.inr (Or.inl q)
    · exact Or.inr (Or.inr q)
  | succ k ih =>
    intro Z nd h hf hn
    obtain ⟨h1, h2, h3, h4⟩ := id h
    have hk := h3 k (by omega)
    simp only [cbZ]
    split
    · next hA =>
      intro _
      refine ⟨h1, h2, fun q hq => ?_, fun j j1 j2 => ?_⟩
      · simp only [zTo, zFirst]
        by_cases z : q = k
        · subst z
          rw [vup_s]
          exact ⟨hk.1, Or.inr ⟨hA.1, by omega, by omega⟩⟩
        · rw [vup_n z]; exact h3 q hq
      · rcases h4 j j1 j2 with q | q | ⟨q, q1, q2⟩
        · refine Or.inr (Or.inr ⟨k, Nat.lt_succ_self k, ?_⟩)
          simp only [zTo, zFirst]
          rw [vup_s, q]
        · exact Or.inr (Or.inl q)
        · refine Or.inr (Or.inr ⟨q, q1, ?_⟩)
          simp only [zTo, zFirst]
          by_cases z : q = k
          · subst z
            rw [hA.2] at q2
            omega
          · rw [vup_n z]; exact q2
    · next hA =>
      split
      · next ht =>
        intro hr
        refine ih _ _ ?_ h1 rfl hr
        have hred : SdI fr may k (zTo Z (tkP b n Z.2.2.2.2.2.2.2 41)) (fun j => j = nd ∨ Z.2.2.2.2.2.2.1 k = (j : Int)) := by
          refine ⟨h1, h2, fun q hq => h3 q (by omega), fun j j1 j2 => ?_⟩
          rcases h4 j j1 j2 with q | q | ⟨q, q1, q2⟩
          · exact Or.inl (Or.inl q)
          · exact Or.inr (Or.inl q)
          · by_cases z : q = k
            · subst z; exact Or.inl (Or.inr q2)
            · exact Or.inr (Or.inr ⟨q, by omega, q2⟩)
        refine hred.add ?_ ?_ rfl
        · simp only [zTo]
          by_cases h6 : Z.2.2.2.2.2.1 k = 6
          · rw [if_pos h6, if_pos h6]
            rcases hk.2 with q | ⟨q1, q2, q3⟩
            · exact absurd ⟨h6, q⟩ hA
            · refine ⟨by omega, by omega, fun z => by omega, fun _ _ => ⟨q2, q3⟩, fun _ z => by omega, fun _ => ⟨by omega, by omega⟩, fun z => by omega⟩
          · rw [if_neg h6, if_neg h6]
            have := hk.1
            refine ⟨by omega, by omega, fun z => by omega, fun _ _ => ⟨by omega, by omega⟩, fun _ _ => rfl, fun z => absurd z h6, fun z => by omega⟩
        · intro j j1 j2 hj
          right
          by_cases h6 : Z.2.2.2.2.2.1 k = 6
          · rw [if_pos h6, if_pos h6]
            rcases hj with q | q
            · right; omega
            · left; exact q
          · rw [if_neg h6, if_neg h6]
            rcases hj with q | q
            · left; omega
            · rcases hk.2 with w | ⟨w, _⟩
              · rw [w] at q; omega
              · exact absurd w h6
      · intro hr; cases hr
