/-! ===== 61: Text.termSentence, whole ===== -/
theorem tmLet_no {sg : Nat → Int} {sz : Nat} (h9 : ∀ i, i < sz → 0 ≤ sg i ∧ sg i ≤ 9) (h : tmLet sg sz 0 0 = 0) : ∀ i, i < sz → sg i < 7 := by
  intro i hi
  by_cases z : sg i < 7
  · exact z
  · exfalso
    have := h9 i hi
    have hb := (tmLet_bit (sg := sg) (l := (sg i - 7).toNat) (by omega) sz 0 0 (fun j _ j2 => (h9 j (by omega)).2)).mpr (Or.inr ⟨i, by omega, by omega, by omega⟩)
    rw [h] at hb
    simp at hb
section S61
variable {S : tmS} {I : Nat → Nat → Int} {L : Nat → Nat → Int64}
/-- the TERMS of a sentence come; none: no room -/
abbrev tsB (I : Nat → Nat → Int) (n sz : Nat) : Option (TS × (Nat → Int)) := bdF (I 158) (I 159) (I 160) (I 141) 0 sz 0 (tsOf I n) (I 142)
abbrev TsPost (S : tmS) (I : Nat → Nat → Int) (L : Nat → Nat → Int64) (n nb sz lf p : Nat) : Option tmV → tmH → Prop := fun q h' => ∃ I', h' = (S, I', L) ∧ (∀ a, 8 ≤ a → a ≠ 142 → a ≠ 155 → I' a = I a) ∧ I' 0 = I 0 ∧ I' 1 = I 1 ∧ (∀ k, k ≠ 8 → I' 155 k = I 155 k) ∧
  ((q = some (tI 0) ∧ I' 155 8 = (skp (I 156) nb p : Int) ∧ ¬ (byt (I 156) nb (skp (I 156) nb p) = 59 ∧ tmLet (I 158) sz 0 0 = 0 ∧ tsB I n sz ≠ none)) ∨
   (q = some (tI 1) ∧ I' 155 8 = ((skp (I 156) nb p + 1 : Nat) : Int) ∧ byt (I 156) nb (skp (I 156) nb p) = 59 ∧ tmLet (I 158) sz 0 0 = 0 ∧ ∃ X md, tsB I n sz = some (X, md) ∧ I' 2 0 = (X.1 : Int) ∧ I' 3 = X.2.1 ∧ I' 4 = X.2.2.1 ∧ I' 5 = X.2.2.2.1 ∧ I' 6 = gzR md sz X.2.2.2.2.1 ∧ I' 7 = tmJn X.1 X.2.2.2.2.2 (X.2.2.2.2.2 (md (lf - 1)).toNat) (X.2.2.2.2.2 (md (sz - 1)).toNat)))
theorem skp_idem {b : Nat → Int} {n p : Nat} (h : p ≤ n) (hb : byt b n (skp b n p) = 59) : skp b n (skp b n p) = skp b n p := by
  by_cases z : skp b n p < n
  · refine skp_no z ?_
    unfold byt at hb; rw [if_pos z] at hb; omega
  · exact skp_end (by omega)
end S61
