/-! ===== 37: FINDINGS are good ===== -/
theorem EN_val {lf n set : Nat} {ho pl sg on ot : Nat → Int} : ∀ (k : Nat) (ch : Nat → Int) (q : Int × Int × Int), k ≤ 3 → q ∈ EN lf n set ho pl sg on ot k ch → ∃ ch' : Nat → Int, (∀ j, j + k < 3 → ch' j = ch j) ∧ SA lf pl sg on ot ch' = true ∧ q = (ch' 0, ch' 1, ch' 2) ∧ ∀ l, l < 3 → 3 ≤ l + k → set.testBit l = true → ∃ c : Nat, c < n ∧ ch' l = (c : Int) ∧ ho c = (c : Int) := by
  intro k
  induction k with
  | zero =>
    intro ch q _ hq
    simp only [EN] at hq
    split at hq
    · next h => exact ⟨ch, fun _ _ => rfl, h, by simpa using hq, fun l a b => by omega⟩
    · cases hq
  | succ k ih =>
    intro ch q hk hq
    simp only [EN] at hq
    split at hq
    · next hs =>
      simp only [List.mem_flatMap, List.mem_range] at hq
      obtain ⟨c, hc, hq⟩ := hq
      split at hq
      · next hoc =>
        obtain ⟨ch', a, b, d, e⟩ := ih _ q (by omega) hq
        refine ⟨ch', fun j hj => by rw [a j (by omega), vup_n (by omega)], b, d, fun l l1 l2 l3 => ?_⟩
        by_cases z : l = 2 - k
        · subst z
          refine ⟨c, hc, ?_, hoc⟩
          rw [a (2 - k) (by omega), vup_s]
        · exact e l l1 (by omega) l3
      · cases hq
    · next hs =>
      obtain ⟨ch', a, b, d, e⟩ := ih _ q (by omega) hq
      refine ⟨ch', fun j hj => by rw [a j (by omega), vup_n (by omega)], b, d, fun l l1 l2 l3 => ?_⟩
      by_cases z : l = 2 - k
      · subst z; exact absurd l3 hs
      · exact e l l1 (by omega) l3
theorem lsOf_b {I : Nat → Nat → Int} {n : Nat} (ht : TInv I n) : ∀ x, x < 50 → 0 ≤ lsOf I n x ∧ lsOf I n x ≤ 9 := by
  obtain ⟨h1, h2, h3, h4, h5, h6⟩ := ht
  exact gnRun_b h6 n 0 _ (by omega) (fun x _ => ⟨by omega, by omega⟩) (fun t ht => by have := h4 t ht; omega)
/-- what every FINDING is like -/
theorem FNDS_good {S : tmS} {I : Nat → Nat → Int} {n p sz lf : Nat} (ht : TInv I n) (hw : RuleW S I p sz lf) {q : Int × Int × Int} (hq : q ∈ FNDS I p lf n) : (∀ l : Nat, l < 3 → (∃ j, j < lf ∧ I (p + 1) j = 7 + (l : Int)) → 0 ≤ chT q l ∧ chT q l < n) ∧ (0 ≤ PlF I p lf q ∧ PlF I p lf q < n) ∧ 1 ≤ GnF I p lf n q := by
  have hls := lsOf_b ht
  obtain ⟨h1, h2, h3, h4, h5, h6⟩ := ht
  obtain ⟨q1, q2, q3, q4, q5, q6, q7, q8, q9, q10, q11⟩ := hw
  obtain ⟨ch, a, b, rfl, e⟩ := EN_val 3 _ _ (Nat.le_refl _) (List.mem_of_mem_take hq)
  refine ⟨fun l hl hj => ?_, ?_, ?_⟩
  · obtain ⟨j, j1, j2⟩ := hj
    have hb := (tmLet_bit (sg := I (p + 1)) hl lf 0 0 (fun j _ j3 => (q8 j (by omega)).2.1)).mpr (Or.inr ⟨j, by omega, by omega, j2⟩)
    obtain ⟨c, c1, c2, c3⟩ := e l hl (by omega) hb
    rw [chT_eq ch hl]; omega
  · have hf := fPl_eq (pl := I 134) q8 q9 q5 (by omega : lf ≤ sz) ch
    have hne := (SA_iff.mp b) (lf - 1) (by omega)
    obtain ⟨t, t1, t2, _⟩ := tv_term q8 h5 h3 h4 h2 (by omega : lf - 1 < sz) q10 hne
    have := h4 t t1
    unfold PlF
    rw [hf, t2]; omega
  · unfold GnF fGn
    exact Int.le_add_of_nonneg_left (gen3_b hls 3 0 _ (svls hls _)).1
/-- RIGHT keeps to itself, and its LETTERS are LEFT's -/
def RuleR (I : Nat → Nat → Int) (p sz lf : Nat) : Prop := SideOK lf sz (I (p + 2)) (I (p + 3)) ∧ ∀ i, lf ≤ i → i < sz → 7 ≤ I (p + 1) i → ∃ j, j < lf ∧ I (p + 1) j = I (p + 1) i
def ELet (I : Nat → Nat → Int) (p lf n : Nat) (x y z : Int) : Prop := ∀ l : Nat, l < 3 → (∃ j, j < lf ∧ I (p + 1) j = 7 + (l : Int)) → 0 ≤ tmPart 0 x y z 0 0 l ∧ tmPart 0 x y z 0 0 l < n
theorem RightOK.mk' {S : tmS} {I I' : Nat → Nat → Int} {p sz lf n n' : Nat} {x y z : Int} (hw : RuleW S I p sz lf) (hr : RuleR I p sz lf) (he : ELet I p lf n x y z) (hn : n ≤ n') (hh : HO n' (I' 7)) (e1 : I' (p + 1) = I (p + 1)) (e2 : I' (p + 2) = I (p + 2)) (e3 : I' (p + 3) = I (p + 3)) : RightOK I' p sz lf n' (ltOf n' (I' 7) x y z) := by
  obtain ⟨q1, q2, q3, q4, q5, q6, q7, q8, q9, q10, q11⟩ := hw
  refine ⟨by rw [e2, e3]; exact hr.1, fun i a b c => ?_⟩
  rw [e1] at c ⊢
  obtain ⟨j, j1, j2⟩ := hr.2 i a b c
  have h9 := (q8 i b).2.1
  have := he (I (p + 1) i - 7).toNat (by omega) ⟨j, j1, by omega⟩
  unfold ltOf
  rw [tmHome_in (by omega)]
  have := hh (tmPart 0 x y z 0 0 (I (p + 1) i - 7).toNat).toNat (by omega)
  omega
/-- what the to-do list holds -/
def TdGood (I : Nat → Nat → Int) (pr lfr : Nat → Nat) (n nr : Nat) (e : E6) : Prop := EGood n nr e ∧ ELet I (pr e.1.toNat) (lfr e.1.toNat) n e.2.1 e.2.2.1 e.2.2.2.1
theorem TDS_good {S : tmS} {I : Nat → Nat → Int} {n nr : Nat} {pr szr lfr : Nat → Nat} (ht : TInv I n) (hrk : RulesOK S I nr pr szr lfr) {lim : Int} (hlim : lim ≤ 9) {e : E6} (he : e ∈ TDS I pr lfr n lim nr) : TdGood I pr lfr n nr e := by
  simp only [TDS, List.mem_flatMap, List.mem_range, List.mem_filter, ENT, List.mem_map] at he
  obtain ⟨r, hr, ⟨q, hq, rfl⟩, hl⟩ := he
  obtain ⟨g1, g2, g3⟩ := FNDS_good ht (hrk.2.2 r hr).2 hq
  unfold notLate entOf at hl
  simp only [decide_eq_true_eq] at hl
  refine ⟨⟨⟨?_, ?_⟩, g2, ?_, ?_⟩, ?_⟩
  · simp only [entOf]; omega
  · simp only [entOf]; omega
  · simp only [entOf]; exact Int.le_trans (by decide) g3
  · simp only [entOf]; exact Int.le_trans hl hlim
  · simp only [entOf, Int.toNat_natCast]
    intro l h3 hj
    have := g1 l h3 hj
    have ez : tmPart 0 q.1 q.2.1 q.2.2 0 0 l = chT q l := by
      have : l = 0 ∨ l = 1 ∨ l = 2 := by omega
      rcases this with rfl | rfl | rfl <;> rfl
    rw [ez]; exact this
/-- the to-do list in ORDER -/
def ORD (od : Int) (T : List E6) : List E6 := (SQK (kyOf od T) T.length 50).filterMap (fun j => T[j]?)
theorem SQK_mem {ky : Nat → Nat} {m j : Nat} (h : j ∈ SQK ky m 50) : j < m := by
  simp only [SQK, List.mem_flatMap, List.mem_filter, List.mem_range] at h
  obtain ⟨_, _, h3, _⟩ := h
  exact h3
theorem filterMap_at {α β : Type} (f : α → Option β) : ∀ (l : List α), (∀ a ∈ l, (f a).isSome) → ∀ i : Nat, (l.filterMap f)[i]? = (l[i]?).bind f := by
  intro l
  induction l with
  | nil => intro _ i; simp
  | cons a l ih =>
    intro h i
    obtain ⟨b, hb⟩ := Option.isSome_iff_exists.mp (h a (by simp))
    rw [List.filterMap_cons_some hb]
    cases i with
    | zero => simp [hb]
    | succ i => simpa using ih (fun x hx => h x (by simp [hx])) i
theorem ORD_at {od : Int} {T : List E6} (i : Nat) : (ORD od T)[i]? = ((SQK (kyOf od T) T.length 50)[i]?).bind (fun j => T[j]?) :=
  filterMap_at _ _ (fun a ha => by rw [List.getElem?_eq_getElem (SQK_mem ha)]; rfl) i
/-- a FINDING is done -/
def DoS (I : Nat → Nat → Int) (pr szr lfr : Nat → Nat) (e : E6) (X : TS) (C : Nat → Int) (X' : TS) (C' : Nat → Int) (u : Int) : Prop :=
  ∃ md : Nat → Int, match bdF (I (pr e.1.toNat + 1)) (I (pr e.1.toNat + 2)) (I (pr e.1.toNat + 3)) (ltOf X.1 X.2.2.2.2.2 e.2.1 e.2.2.1 e.2.2.2.1) e.2.2.2.2.2 (szr e.1.toNat - lfr e.1.toNat) (lfr e.1.toNat) X md with
  | none => u = 0 ∧ X'.1 = X.1 ∧ (∀ t, t < X.1 → X'.2.1 t = X.2.1 t ∧ X'.2.2.1 t = X.2.2.1 t ∧ X'.2.2.2.1 t = X.2.2.2.1 t ∧ X'.2.2.2.2.1 t = X.2.2.2.2.1 t ∧ X'.2.2.2.2.2 t = X.2.2.2.2.2 t) ∧ C' 0 = C 0 ∧ C' 1 = C 1 ∧ C' 2 = C 2 + 1 ∧ C' 3 = C 3 ∧ C' 4 = C 4
  | some (X1, md') => IsCl X1.1 X1.2.1 X1.2.2.1 X1.2.2.2.1 (tmJn X1.1 X1.2.2.2.2.2 (X1.2.2.2.2.2 (md' (szr e.1.toNat - 1)).toNat) (X1.2.2.2.2.2 e.2.2.2.2.1.toNat)) X'.2.2.2.2.2 ∧ X'.1 = X1.1 ∧ X'.2.1 = X1.2.1 ∧ X'.2.2.1 = X1.2.2.1 ∧ X'.2.2.2.1 = X1.2.2.2.1 ∧ X'.2.2.2.2.1 = X1.2.2.2.2.1 ∧
    u = (if X.1 < X1.1 ∨ nCls X.1 X'.2.2.2.2.2 < nCls X.1 X.2.2.2.2.2 then 1 else 0) ∧ C' 0 = C 0 + 1 ∧ C' 1 = C 1 ∧ C' 2 = C 2 ∧ C' 3 = C 3 + ((X1.1 : Int) - X.1) ∧ C' 4 = C 4 + (if nCls X.1 X'.2.2.2.2.2 < nCls X.1 X.2.2.2.2.2 then 1 else 0)
def RunS (I : Nat → Nat → Int) (pr szr lfr : Nat → Nat) : List E6 → TS → (Nat → Int) → Int → TS → (Nat → Int) → Int → Prop
  | [], X, C, u, X', C', u' => X' = X ∧ C' = C ∧ u' = u
  | e :: l, X, C, u, X', C', u' => ∃ X1 C1 v, DoS I pr szr lfr e X C X1 C1 v ∧ RunS I pr szr lfr l X1 C1 (u + v) X' C' u'
