/-! ===== 27: which FINDINGS there are, by the order in which they come (no machine) ===== -/
def SA (lf : Nat) (pl sg on ot ch : Nat → Int) : Bool := (List.range lf).all fun i => tv pl sg on ot ch (i : Int) != -1
theorem SA_iff {lf : Nat} {pl sg on ot ch : Nat → Int} : SA lf pl sg on ot ch = true ↔ ∀ i : Nat, i < lf → tv pl sg on ot ch i ≠ -1 := by
  unfold SA
  rw [List.all_eq_true]
  constructor
  · intro h i hi
    have := h i (List.mem_range.mpr hi)
    simpa using this
  · intro h i hi
    have := h i (List.mem_range.mp hi)
    simpa using this
/-- all FINDINGS whose LETTERS below 3 - k are as ch tells -/
def EN (lf n set : Nat) (ho pl sg on ot : Nat → Int) : Nat → (Nat → Int) → List (Int × Int × Int)
  | 0, ch => if SA lf pl sg on ot ch = true then [(ch 0, ch 1, ch 2)] else []
  | k + 1, ch => if set.testBit (2 - k) then (List.range n).flatMap (fun c => if ho c = (c : Int) then EN lf n set ho pl sg on ot k (va_up ch (2 - k) (c : Int)) else []) else EN lf n set ho pl sg on ot k (va_up ch (2 - k) (-1))
theorem EN_mem {lf n set : Nat} {ho pl sg on ot : Nat → Int} : ∀ (k : Nat) (ch : Nat → Int) (q : Int × Int × Int), k ≤ 3 → q ∈ EN lf n set ho pl sg on ot k ch → ∃ ch' : Nat → Int, (∀ j, j + k < 3 → ch' j = ch j) ∧ SA lf pl sg on ot ch' = true ∧ q = (ch' 0, ch' 1, ch' 2) := by
  intro k
  induction k with
  | zero =>
    intro ch q _ hq
    simp only [EN] at hq
    split at hq
    · next h => exact ⟨ch, fun _ _ => rfl, h, by simpa using hq⟩
    · cases hq
  | succ k ih =>
    intro ch q hk hq
    simp only [EN] at hq
    split at hq
    · obtain ⟨c, -, hc⟩ := List.mem_flatMap.mp hq
      split at hc
      · obtain ⟨ch', h1, h2⟩ := ih _ q (by omega) hc
        exact ⟨ch', fun j hj => by rw [h1 j (by omega), vup_n (by omega)], h2⟩
      · cases hc
    · obtain ⟨ch', h1, h2⟩ := ih _ q (by omega) hq
      exact ⟨ch', fun j hj => by rw [h1 j (by omega), vup_n (by omega)], h2⟩
theorem EN_nil {lf n set : Nat} {ho pl sg on ot : Nat → Int} {k : Nat} {ch : Nat → Int} (hk : k ≤ 3) (h : ∀ ch' : Nat → Int, (∀ j, j + k < 3 → ch' j = ch j) → SA lf pl sg on ot ch' = true → False) : EN lf n set ho pl sg on ot k ch = [] := by
  cases e : EN lf n set ho pl sg on ot k ch with
  | nil => rfl
  | cons a r =>
    obtain ⟨ch', h1, h2, -⟩ := EN_mem (lf := lf) (n := n) (set := set) (ho := ho) (pl := pl) (sg := sg) (on := on) (ot := ot) k ch a hk (by rw [e]; exact List.mem_cons_self)
    exact (h ch' h1 h2).elim
theorem tmLet_bit {sg : Nat → Int} {l : Nat} (hl : l < 3) : ∀ (k i m : Nat), (∀ j, i ≤ j → j < i + k → sg j ≤ 9) → ((tmLet sg k i m).testBit l = true ↔ m.testBit l = true ∨ ∃ j, i ≤ j ∧ j < i + k ∧ sg j = 7 + (l : Int)) := by
  intro k
  induction k with
  | zero => intro i m _; simp only [tmLet]; exact ⟨Or.inl, fun h => h.resolve_right (fun ⟨j, a, b, _⟩ => by omega)⟩
  | succ k ih =>
    intro i m h9
    simp only [tmLet]
    rw [ih (i + 1) _ (fun j a b => h9 j (by omega) (by omega))]
    have h9i := h9 i (by omega) (by omega)
    by_cases h7 : 7 ≤ sg i
    · rw [if_pos h7, Nat.testBit_or, Bool.or_eq_true]
      have e : (1 <<< (sg i - 7).toNat).testBit l = true ↔ sg i = 7 + (l : Int) := by
        rw [Nat.one_shiftLeft, Nat.testBit_two_pow]
        simp only [decide_eq_true_eq]
        omega
      rw [e]
      constructor
      · rintro ((a | a) | ⟨j, a, b, c⟩)
        · exact Or.inl a
        · exact Or.inr ⟨i, by omega, by omega, a⟩
        · exact Or.inr ⟨j, by omega, by omega, c⟩
      · rintro (a | ⟨j, a, b, c⟩)
        · exact Or.inl (Or.inl a)
        · by_cases z : j = i
          · subst z; exact Or.inl (Or.inr c)
          · exact Or.inr ⟨j, by omega, by omega, c⟩
    · rw [if_neg h7]
      constructor
      · rintro (a | ⟨j, a, b, c⟩)
        · exact Or.inl a
        · exact Or.inr ⟨j, by omega, by omega, c⟩
      · rintro (a | ⟨j, a, b, c⟩)
        · exact Or.inl a
        · by_cases z : j = i
          · subst z; omega
          · exact Or.inr ⟨j, by omega, by omega, c⟩
theorem tmLet_lt {sg : Nat → Int} : ∀ (k i m : Nat), (∀ j, i ≤ j → j < i + k → sg j ≤ 9) → m < 8 → tmLet sg k i m < 8 := by
  intro k
  induction k with
  | zero => intro i m _ hm; exact hm
  | succ k ih =>
    intro i m h9 hm
    simp only [tmLet]
    refine ih (i + 1) _ (fun j a b => h9 j (by omega) (by omega)) ?_
    have := h9 i (by omega) (by omega)
    split
    · exact (tm_or8 m hm (sg i - 7).toNat (by omega)).2
    · exact hm
theorem tmKey_ge {s p q : Int} (h : 0 ≤ tmKey s p q) : (0 ≤ s ∧ s ≤ 6) ∧ (4 ≤ s → 0 ≤ p ∧ p < 50) ∧ (s = 6 → 0 ≤ q ∧ q < 50) := by
  unfold tmKey at h
  split at h
  · omega
  · split at h
    · omega
    · split at h
      · omega
      · split at h
        · omega
        · split at h <;> omega
/-- a node that stands: the TERM by which it does -/
theorem tv_term {m n : Nat} {sg on ot ho pl psg pon pot ch : Nat → Int} (hw : WFN m psg pon pot) (hT : TabOK n sg on ot ho pl) (hwt : WFT n sg on ot) (hh : HO n ho) (hn : n ≤ 50) {i : Nat} (hi : i < m) (h7 : psg i < 7) (h : tv pl psg pon pot ch i ≠ -1) : ∃ t, t < n ∧ tv pl psg pon pot ch i = ho t ∧ sg t = psg i ∧ (4 ≤ psg i → tmHome n ho (on t) = tv pl psg pon pot ch (pon i)) ∧ (psg i = 6 → tmHome n ho (ot t) = tv pl psg pon pot ch (pot i)) := by
  have e := tv_eq (pl := pl) (ch := ch) hw hi
  rw [if_neg (by omega), plK] at e
  by_cases hk : tmKey (psg i) (tv pl psg pon pot ch (pon i)) (tv pl psg pon pot ch (pot i)) < 0
  · rw [if_pos hk] at e; exact absurd e h
  · rw [if_neg hk] at e
    have hkl := tmKey_lt (psg i) (tv pl psg pon pot ch (pon i)) (tv pl psg pon pot ch (pot i))
    obtain ⟨g1, g2, g3⟩ := tmKey_ge (by omega : 0 ≤ tmKey (psg i) (tv pl psg pon pot ch (pon i)) (tv pl psg pon pot ch (pot i)))
    obtain ⟨t, ht, e1, e2⟩ := hT.2 (tmKey (psg i) (tv pl psg pon pot ch (pon i)) (tv pl psg pon pot ch (pot i))).toNat (by omega) (by rw [← e]; exact h)
    obtain ⟨b1, b2, b3, b4, b5, b6⟩ := part_ok hwt hh hn ht
    obtain ⟨k1, k2, k3⟩ := tmKey_inj g1 g2 g3 b1 b2 b3 (show tmKey (psg i) (tv pl psg pon pot ch (pon i)) (tv pl psg pon pot ch (pot i)) = tKey n sg on ot ho t by omega)
    exact ⟨t, ht, by rw [e, e2], k1.symm, fun z => (k2 z).symm, fun z => (k3 z).symm⟩
/-- what is fixed while a RULE's FINDINGS are looked for -/
def ChS (S : tmS) (I : Nat → Nat → Int) (L : Nat → Nat → Int64) (p sz lf n set : Nat) (r : Int) : Prop :=
  RuleW S I p sz lf ∧ I 2 0 = (n : Int) ∧ n ≤ 50 ∧ HO n (I 7) ∧ WFT n (I 3) (I 4) (I 5) ∧ TabOK n (I 3) (I 4) (I 5) (I 7) (I 134) ∧ MkT n (I 3) (I 4) (I 5) (I 7) L n ∧ (∀ c, c < 50 → 0 ≤ I 146 c ∧ I 146 c ≤ 9) ∧ I 143 3 = r ∧ 0 ≤ r ∧ r < 6 ∧ set = tmLet (I (p + 1)) lf 0 0
theorem RuleW.fr {S : tmS} {I I' : Nat → Nat → Int} {p sz lf : Nat} (h : RuleW S I p sz lf) (e : ∀ a, 192 ≤ a → I' a = I a) : RuleW S I' p sz lf := by
  obtain ⟨h1, h2, h3, h4, h5, h6, h7, h8, h9, h10, h11⟩ := h
  have e0 := e p (by omega)
  have e1 := e (p + 1) (by omega)
  have e2 := e (p + 2) (by omega)
  have e3 := e (p + 3) (by omega)
  have e4 := e (p + 4) (by omega)
  refine ⟨h1, h2, ?_, ?_, h5, h6, h7, ?_, ?_, ?_, ?_⟩
  · rw [e0]; exact h3
  · rw [e0]; exact h4
  · rw [e1, e2, e3]; exact h8
  · rw [e1, e2, e3, e4]; exact h9
  · rw [e1]; exact h10
  · rw [e2, e3]; exact h11
theorem ChS.fr {S : tmS} {I I' : Nat → Nat → Int} {L L' : Nat → Nat → Int64} {p sz lf n set : Nat} {r : Int} (h : ChS S I L p sz lf n set r) (e : ∀ a, a ≠ 144 → a ≠ 147 → a ≠ 148 → I' a = I a) (el : ∀ a, a ≠ 145 → L' a = L a) : ChS S I' L' p sz lf n set r := by
  obtain ⟨h1, h2, h3, h4, h5, h6, h7, h8, h9, h10, h11, h12⟩ := h
  have hp := h1.1
  have E : ∀ a, a ≠ 144 → a ≠ 147 → a ≠ 148 → I' a = I a := e
  refine ⟨h1.fr (fun a ha => e a (by omega) (by omega) (by omega)), ?_, h3, ?_, ?_, ?_, ?_, ?_, ?_, h10, h11, ?_⟩
  · rw [E 2 (by decide) (by decide) (by decide)]; exact h2
  · rw [E 7 (by decide) (by decide) (by decide)]; exact h4
  · rw [E 3 (by decide) (by decide) (by decide), E 4 (by decide) (by decide) (by decide), E 5 (by decide) (by decide) (by decide)]; exact h5
  · rw [E 3 (by decide) (by decide) (by decide), E 4 (by decide) (by decide) (by decide), E 5 (by decide) (by decide) (by decide), E 7 (by decide) (by decide) (by decide), E 134 (by decide) (by decide) (by decide)]; exact h6
  · rw [E 3 (by decide) (by decide) (by decide), E 4 (by decide) (by decide) (by decide), E 5 (by decide) (by decide) (by decide), E 7 (by decide) (by decide) (by decide)]
    obtain ⟨m1, m2, m3, m4⟩ := h7
    refine ⟨?_, ?_, ?_, ?_⟩
    · rw [el 136 (by decide)]; exact m1
    · rw [el 133 (by decide)]; exact m2
    · rw [el 137 (by decide)]; exact m3
    · rw [el 138 (by decide)]; exact m4
  · rw [E 146 (by decide) (by decide) (by decide)]; exact h8
  · rw [E 143 (by decide) (by decide) (by decide)]; exact h9
  · rw [E (p + 1) (by omega) (by omega) (by omega)]; exact h12
/-- no CLASS that goes is left out -/
theorem fit_sound {S : tmS} {I : Nat → Nat → Int} {L : Nat → Nat → Int64} {p sz lf n set : Nat} {r : Int} (h : ChS S I L p sz lf n set r) {l : Nat} (hl : l < 3) (hv : VOK lf (I 134) (I (p + 1)) (I (p + 2)) (I (p + 3)) (I (p + 4)) (I 148) (I 147) l) {ch : Nat → Int} (hch : ∀ j, j < l → ch j = I 148 j) (hsa : SA lf (I 134) (I (p + 1)) (I (p + 2)) (I (p + 3)) ch = true) {c : Nat} (hc : ch l = (c : Int)) (hc5 : c < 50) : ∀ i, i < lf → FitP sz (I (p + 1)) (I (p + 2)) (I (p + 3)) (I (p + 4)) (I 147) L l i c := by
  obtain ⟨h1, h2, h3, h4, h5, h6, h7, h8, h9, h10, h11, h12⟩ := h
  obtain ⟨q1, q2, q3, q4, q5, q6, q7, q8, q9, q10, q11⟩ := h1
  have hw := q8.le (show lf ≤ sz by omega)
  have hws := q9.le (show lf ≤ sz by omega)
  rw [SA_iff] at hsa
  obtain ⟨m1, m2, m3, m4⟩ := h7
  intro i hi
  have w := hw i hi
  -- what a part is known to stand for
  have kn : ∀ x : Int, -1 ≤ x → x < i → knV sz (I (p + 4)) (I 147) l x = -1 ∨ (0 ≤ x ∧ knV sz (I (p + 4)) (I 147) l x = tv (I 134) (I (p + 1)) (I (p + 2)) (I (p + 3)) ch x) := by
    intro x hx1 hx2
    unfold knV
    by_cases z : 0 ≤ x
    · by_cases z2 : tmStageOf sz (I (p + 4)) x ≤ l
      · rw [if_pos z2]
        right
        refine ⟨z, ?_⟩
        rw [tmStageOf, if_pos ⟨z, by omega⟩] at z2
        have v1 := (hv x.toNat (by omega) z2).1
        rw [svOf, if_pos ⟨z, by omega⟩, v1]
        have := tv_dep (pl := I 134) hw hws (ch := I 148) (ch' := ch) x.toNat (by omega) (fun j hj => (hch j (by omega)).symm)
        rw [this, show ((x.toNat : Nat) : Int) = x by omega]
      · rw [if_neg z2]; exact Or.inl rfl
    · left
      split
      · rw [svOf, if_neg (by omega)]
      · rfl
  constructor
  · intro hlt
    obtain ⟨z1, z2, z3⟩ := hlt
    have h47 : 4 ≤ I (p + 1) i ∧ I (p + 1) i < 7 := by
      constructor
      · by_cases q : I (p + 1) i < 4
        · have := w.2.2.2.2.2.2.1 q; omega
        · omega
      · by_cases q : 7 ≤ I (p + 1) i
        · have := w.2.2.2.2.2.2.2.1 q; omega
        · omega
    obtain ⟨t, ht, -, e2, e3, e4⟩ := tv_term hw h6 h5 h4 h3 hi h47.2 (hsa i hi)
    have eo : tv (I 134) (I (p + 1)) (I (p + 2)) (I (p + 3)) ch (I (p + 2) i) = (c : Int) := by
      have := tv_eq (pl := I 134) (ch := ch) hw (i := (I (p + 2) i).toNat) (by omega)
      rw [show (((I (p + 2) i).toNat : Nat) : Int) = I (p + 2) i by omega] at this
      rw [this, if_pos (by omega), z3, show ((7 : Int) + l - 7).toNat = l by omega, hc]
    have et := e3 h47.1
    rw [eo] at et
    unfold fsM
    rcases kn (I (p + 3) i) (by omega) (by omega) with k | ⟨k0, k⟩
    · rw [k, if_neg (by omega), if_pos (by omega)]
      exact (m1 (I (p + 1) i).toNat c (by omega) (by omega)).mpr ⟨t, ht, by omega, et⟩
    · have s6 : I (p + 1) i = 6 := by
        by_cases q : I (p + 1) i < 6
        · have := w.2.2.2.2.2.2.2.2.2.1 ⟨h47.1, q⟩; omega
        · omega
      have e5 := e4 s6
      obtain ⟨b1', b2', b3', -⟩ := part_ok h5 h4 h3 ht
      have b := b3' (by omega)
      rw [k, if_pos (by omega)]
      exact (m3 _ c (by omega) (by omega)).mpr ⟨t, ht, by omega, et⟩
  · intro hlt
    obtain ⟨z1, z2, z3⟩ := hlt
    have s6 : I (p + 1) i = 6 := by
      by_cases q : I (p + 1) i < 4
      · have := w.2.2.2.2.2.2.1 q; omega
      · by_cases q7 : 7 ≤ I (p + 1) i
        · have := w.2.2.2.2.2.2.2.1 q7; omega
        · by_cases q6 : I (p + 1) i < 6
          · have := w.2.2.2.2.2.2.2.2.2.1 ⟨by omega, q6⟩; omega
          · omega
    obtain ⟨t, ht, -, e2, e3, e4⟩ := tv_term hw h6 h5 h4 h3 hi (by omega) (hsa i hi)
    have eo : tv (I 134) (I (p + 1)) (I (p + 2)) (I (p + 3)) ch (I (p + 3) i) = (c : Int) := by
      have := tv_eq (pl := I 134) (ch := ch) hw (i := (I (p + 3) i).toNat) (by omega)
      rw [show (((I (p + 3) i).toNat : Nat) : Int) = I (p + 3) i by omega] at this
      rw [this, if_pos (by omega), z3, show ((7 : Int) + l - 7).toNat = l by omega, hc]
    have et := e4 s6
    rw [eo] at et
    have e5 := e3 (by omega)
    obtain ⟨b1', b2', b3', -⟩ := part_ok h5 h4 h3 ht
    have b := b2' (by omega)
    unfold ssM
    rcases kn (I (p + 2) i) (by omega) (by omega) with k | ⟨k0, k⟩
    · rw [k, if_neg (by omega)]
      exact (m2 c (by omega)).mpr ⟨t, ht, by omega, et⟩
    · rw [k, if_pos (by omega)]
      exact (m4 _ c (by omega) (by omega)).mpr ⟨t, ht, by omega, et⟩
/-- what stays are names of CLASSES -/
theorem fit_name {S : tmS} {I : Nat → Nat → Int} {L : Nat → Nat → Int64} {p sz lf n set : Nat} {r : Int} (h : ChS S I L p sz lf n set r) {l : Nat} (hl : l < 3) (hs : set.testBit l = true) {c : Nat} (hc : c < 64) (hf : ∀ i, i < lf → FitP sz (I (p + 1)) (I (p + 2)) (I (p + 3)) (I (p + 4)) (I 147) L l i c) : I 7 c = (c : Int) := by
  obtain ⟨h1, h2, h3, h4, h5, h6, h7, h8, h9, h10, h11, h12⟩ := h
  obtain ⟨q1, q2, q3, q4, q5, q6, q7, q8, q9, q10, q11⟩ := h1
  obtain ⟨m1, m2, m3, m4⟩ := h7
  have nm : ∀ x : Int, tmHome n (I 7) x = (c : Int) → I 7 c = (c : Int) := by
    intro x hx
    by_cases z : 0 ≤ x ∧ x < n
    · rw [tmHome_in z] at hx
      have := h4 x.toNat (by omega)
      rw [hx] at this
      have e := this.2.2
      rw [show (c : Int).toNat = c by omega] at e
      exact e
    · rw [tmHome_out z] at hx; omega
  rw [h12, tmLet_bit hl lf 0 0 (fun j _ hj => (q8 j (by omega)).2.1)] at hs
  obtain ⟨j, -, hj, ej⟩ := hs.resolve_left (by simp)
  have hjl : j + 1 < lf := by
    by_cases z : j = lf - 1
    · subst z; omega
    · omega
  obtain ⟨i, hi, ei⟩ := q11 j hjl
  obtain ⟨f1, f2⟩ := hf i hi
  rcases ei with ei | ei
  · have b := f1 ⟨by omega, by omega, by rw [ei, show (j : Int).toNat = j by omega]; exact ej⟩
    unfold fsM at b
    split at b
    · obtain ⟨t, -, -, e⟩ := (m3 _ c (by omega) hc).mp b; exact nm _ e
    · split at b
      · obtain ⟨t, -, -, e⟩ := (m1 _ c (by omega) hc).mp b; exact nm _ e
      · rw [bit_0] at b; cases b
  · have b := f2 ⟨by omega, by omega, by rw [ei, show (j : Int).toNat = j by omega]; exact ej⟩
    unfold ssM at b
    split at b
    · obtain ⟨t, -, -, e⟩ := (m4 _ c (by omega) hc).mp b; exact nm _ e
    · obtain ⟨t, -, -, e⟩ := (m2 c hc).mp b; exact nm _ e
