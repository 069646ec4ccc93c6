/-! ===== 40: TERMS alike below their number; Round.wouldChangeBy ===== -/
/-- the same TERMS -/
def TsEq (X Y : TS) : Prop := Y.1 = X.1 ∧ ∀ t, t < X.1 → Y.2.1 t = X.2.1 t ∧ Y.2.2.1 t = X.2.2.1 t ∧ Y.2.2.2.1 t = X.2.2.2.1 t ∧ Y.2.2.2.2.1 t = X.2.2.2.2.1 t ∧ Y.2.2.2.2.2 t = X.2.2.2.2.2 t
theorem TsEq.refl (X : TS) : TsEq X X := ⟨rfl, fun _ _ => ⟨rfl, rfl, rfl, rfl, rfl⟩⟩
theorem TsEq.symm {X Y : TS} (h : TsEq X Y) : TsEq Y X := ⟨h.1.symm, fun t ht => by
  obtain ⟨a, b, c, d, e⟩ := h.2 t (by rw [← h.1]; exact ht)
  exact ⟨a.symm, b.symm, c.symm, d.symm, e.symm⟩⟩
theorem TsEq.trans {X Y Z : TS} (h : TsEq X Y) (g : TsEq Y Z) : TsEq X Z := ⟨g.1.trans h.1, fun t ht => by
  obtain ⟨a, b, c, d, e⟩ := h.2 t ht
  obtain ⟨a', b', c', d', e'⟩ := g.2 t (by rw [h.1]; exact ht)
  exact ⟨a'.trans a, b'.trans b, c'.trans c, d'.trans d, e'.trans e⟩⟩
theorem tmScan_cg {P Q : Nat → Prop} [DecidablePred P] [DecidablePred Q] : ∀ (k t : Nat), (∀ j, t ≤ j → j < t + k → (P j ↔ Q j)) → tmScan P k t = tmScan Q k t := by
  intro k
  induction k with
  | zero => intro t _; rfl
  | succ k ih =>
    intro t h
    have h0 := h t (Nat.le_refl _) (by omega)
    have ih' := ih (t + 1) (fun j a b => h j (by omega) (by omega))
    simp only [tmScan]
    by_cases hp : P t
    · rw [if_pos hp, if_pos (h0.mp hp)]
    · rw [if_neg hp, if_neg (fun z => hp (h0.mpr z)), ih']
theorem tsLk_cg {X Y : TS} (h : TsEq X Y) (s a b : Int) : tsLk Y s a b = tsLk X s a b := by
  unfold tsLk
  rw [h.1]
  refine tmScan_cg _ _ (fun j _ hj => ?_)
  obtain ⟨e1, e2, e3, _⟩ := h.2 j (by omega)
  rw [e1, e2, e3]
theorem tsAdd_cg {X Y : TS} (h : TsEq X Y) (s a b g : Int) : TsEq (tsAdd X s a b g) (tsAdd Y s a b g) := by
  refine ⟨by simp only [tsAdd, h.1], fun t ht => ?_⟩
  simp only [tsAdd] at ht ⊢
  rw [h.1]
  by_cases z : t = X.1
  · subst z; simp only [vup_s, and_self]
  · simp only [vup_n z]; exact h.2 t (by omega)
def BdRel (fr to : Nat) : Option (TS × (Nat → Int)) → Option (TS × (Nat → Int)) → Prop
  | none, none => True
  | some A, some B => TsEq A.1 B.1 ∧ ∀ j, fr ≤ j → j < to → B.2 j = A.2 j
  | none, some _ => False
  | some _, none => False
theorem bdF_rel {psg pon pot lt lt' : Nat → Int} {g : Int} {fr sz : Nat} (hw : WFN sz psg pon pot) (hsz : sz ≤ 120) (hs : SideOK fr sz pon pot) : ∀ (k i : Nat) (X Y : TS) (md md' : Nat → Int), i + k ≤ sz → fr ≤ i → TsEq X Y → (∀ j, fr ≤ j → j < i → md' j = md j) → (∀ j, i ≤ j → j < i + k → 7 ≤ psg j → lt' (psg j - 7).toNat = lt (psg j - 7).toNat) → BdRel fr (i + k) (bdF psg pon pot lt g k i X md) (bdF psg pon pot lt' g k i Y md') := by
  intro k
  induction k with
  | zero => intro i X Y md md' _ _ h1 h2 _; exact ⟨h1, fun j a b => h2 j a (by omega)⟩
  | succ k ih =>
    intro i X Y md md' hik hfi hXY hmd hl
    have w := hw i (by omega)
    have sd := hs i hfi (by omega)
    simp only [bdF]
    rw [show i + (k + 1) = i + 1 + k by omega]
    have up : ∀ v : Int, ∀ j, fr ≤ j → j < i + 1 → va_up md' i v j = va_up md i v j := fun v j a b => by
      by_cases z : j = i
      · subst z; rw [vup_s, vup_s]
      · rw [vup_n z, vup_n z]; exact hmd j a (by omega)
    by_cases h7 : 7 ≤ psg i
    · rw [if_pos h7, if_pos h7, hl i (Nat.le_refl _) (by omega) h7]
      exact ih (i + 1) X Y _ _ (by omega) (by omega) hXY (up _) (fun j a b => hl j (by omega) (by omega))
    · rw [if_neg h7, if_neg h7]
      have pv : ∀ x : Int, x < i → (0 ≤ x → (fr : Int) ≤ x) → svOf md' 120 (-1) x = svOf md 120 (-1) x := by
        intro x x1 x2
        unfold svOf
        by_cases z : 0 ≤ x ∧ x < (120 : Nat)
        · rw [if_pos z, if_pos z]
          have := x2 z.1
          exact hmd x.toNat (by omega) (by omega)
        · rw [if_neg z, if_neg z]
      rw [pv (pon i) (by omega) sd.1, pv (pot i) (by omega) sd.2]
      unfold tsCome
      rw [tsLk_cg hXY, hXY.1]
      by_cases h1 : tsLk X (psg i) (svOf md 120 (-1) (pon i)) (svOf md 120 (-1) (pot i)) = -1
      · rw [if_pos h1, if_pos h1]
        by_cases h2 : X.1 < 50
        · rw [if_pos h2, if_pos h2]
          exact ih (i + 1) _ _ _ _ (by omega) (by omega) (tsAdd_cg hXY _ _ _ _) (up _) (fun j a b => hl j (by omega) (by omega))
        · rw [if_neg h2, if_neg h2]; trivial
      · rw [if_neg h1, if_neg h1]
        exact ih (i + 1) X Y _ _ (by omega) (by omega) hXY (up _) (fun j a b => hl j (by omega) (by omega))
/-- a FINDING would change anything -/
def wcB (psg pon pot : Nat → Int) (sz lf : Nat) (X : TS) (x y z P g : Int) : Prop := match bdF psg pon pot (ltOf X.1 X.2.2.2.2.2 x y z) g (sz - lf) lf X (fun _ => 0) with
  | none => False
  | some (X1, md) => X.1 < X1.1 ∨ tmHome X.1 X.2.2.2.2.2 (md (sz - 1)) ≠ P
theorem tmHome_cg {n : Nat} {h h' : Nat → Int} (e : ∀ t, t < n → h' t = h t) (x : Int) : tmHome n h' x = tmHome n h x := by
  by_cases hx : 0 ≤ x ∧ x < n
  · rw [tmHome_in hx, tmHome_in hx, e _ (by omega)]
  · rw [tmHome_out hx, tmHome_out hx]
theorem ltOf_cg {n : Nat} {h h' : Nat → Int} (e : ∀ t, t < n → h' t = h t) (x y z : Int) : ltOf n h' x y z = ltOf n h x y z := by
  funext l; unfold ltOf; exact tmHome_cg e _
theorem wcB_cg {psg pon pot : Nat → Int} {sz lf : Nat} (hw : WFN sz psg pon pot) (hsz : sz ≤ 120) (hlf : lf < sz) (hs : SideOK lf sz pon pot) {X Y : TS} (h : TsEq X Y) (x y z P g : Int) : wcB psg pon pot sz lf Y x y z P g ↔ wcB psg pon pot sz lf X x y z P g := by
  have hr := bdF_rel (lt := ltOf X.1 X.2.2.2.2.2 x y z) (lt' := ltOf Y.1 Y.2.2.2.2.2 x y z) (g := g) hw hsz hs (sz - lf) lf X Y (fun _ => 0) (fun _ => 0) (by omega) (Nat.le_refl _) h (fun _ _ _ => rfl) (fun j _ _ _ => by rw [h.1, ltOf_cg (fun t ht => (h.2 t ht).2.2.2.2)])
  unfold wcB
  revert hr
  generalize bdF psg pon pot (ltOf X.1 X.2.2.2.2.2 x y z) g (sz - lf) lf X (fun _ => 0) = A
  generalize bdF psg pon pot (ltOf Y.1 Y.2.2.2.2.2 x y z) g (sz - lf) lf Y (fun _ => 0) = B
  intro hr
  cases A with
  | none => cases B with
    | none => exact Iff.rfl
    | some B => exact absurd hr id
  | some A => cases B with
    | none => exact absurd hr id
    | some B =>
      obtain ⟨h1, h2⟩ := hr
      simp only
      rw [h.1, h1.1, h2 (sz - 1) (by omega) (by omega), tmHome_cg (fun t ht => (h.2 t ht).2.2.2.2)]
