/-! ===== 99r: what the total build leaves as it was ===== -/
/-- TERMS of X stand in Y as they were -/
def KpX (X Y : TS) : Prop := X.1 ≤ Y.1 ∧ ∀ t, t < X.1 → Y.2.1 t = X.2.1 t ∧ Y.2.2.1 t = X.2.2.1 t ∧ Y.2.2.2.1 t = X.2.2.2.1 t ∧ Y.2.2.2.2.1 t = X.2.2.2.2.1 t ∧ Y.2.2.2.2.2 t = X.2.2.2.2.2 t
set_option maxRecDepth 20000 in
theorem KpX.rfl' {X : TS} : KpX X X := ⟨Nat.le_refl _, fun _ _ => ⟨rfl, rfl, rfl, rfl, rfl⟩⟩
set_option maxRecDepth 20000 in
theorem KpX.trans' {X Y Z : TS} (h : KpX X Y) (g : KpX Y Z) : KpX X Z := ⟨Nat.le_trans h.1 g.1, fun t ht => by
  obtain ⟨a1, a2, a3, a4, a5⟩ := h.2 t ht
  obtain ⟨b1, b2, b3, b4, b5⟩ := g.2 t (Nat.lt_of_lt_of_le ht h.1)
  exact ⟨b1.trans a1, b2.trans a2, b3.trans a3, b4.trans a4, b5.trans a5⟩⟩
set_option maxRecDepth 20000 in
theorem mdY_f {X : TS} {t : Int} : mdY false X t = X := by unfold mdY; rw [if_neg (by decide)]
set_option maxRecDepth 20000 in
theorem comeT_kp (X : TS) (s a b g : Int) : KpX X (comeT X s a b g).2.1 := by
  unfold comeT tsCome
  by_cases c : tsLk X s a b = -1
  · rw [if_pos c]
    by_cases c5 : X.1 < 50
    · rw [if_pos c5]
      refine ⟨by simp only [tsAdd]; omega, fun t ht => ?_⟩
      simp only [tsAdd]
      have e : t ≠ X.1 := by omega
      rw [vup_n e, vup_n e, vup_n e, vup_n e, vup_n e]
      exact ⟨rfl, rfl, rfl, rfl, rfl⟩
    · rw [if_neg c5]; exact KpX.rfl'
  · rw [if_neg c]; exact KpX.rfl'
set_option maxRecDepth 20000 in
theorem wtT_kp {g : Int} : ∀ (st : WSt) (t : Int) (X : TS) (ov : Bool), KpX X (wtT false g st t X ov).2.2.1 := by
  intro st
  induction st with
  | nil => intro t X ov; exact KpX.rfl'
  | cons q r ih =>
    intro t X ov
    simp only [wtT]
    split
    · exact KpX.rfl'
    · simp only [mdY_f]
      exact (comeT_kp _ _ _ _ _).trans' (ih _ _ _)
set_option maxRecDepth 20000 in
theorem bT_kp {lt : Nat → Int} {g : Int} : ∀ (w : List Int) (st : WSt) (t : Int) (X : TS) (ov : Bool), KpX X (bT false lt g w st t X ov).2.2.1 := by
  intro w
  induction w with
  | nil => intro st t X ov; exact KpX.rfl'
  | cons s w ih =>
    intro st t X ov
    simp only [bT]
    split
    · exact ih _ _ _ _
    · simp only [mdY_f]
      refine KpX.trans' ?_ (KpX.trans' (wtT_kp _ _ _ _) (ih _ _ _ _))
      split
      · exact KpX.rfl'
      · exact comeT_kp _ _ _ _ _
-- the old count, written back, gives the old TERMS
set_option maxRecDepth 20000 in
theorem MT.back {I : Nat → Nat → Int} {X Y : TS} (h : MT I Y) (k : KpX X Y) (h50 : X.1 ≤ 50) : MT (va_up I 169 (va_up (I 169) 0 (X.1 : Int))) X := by
  refine ⟨by rw [vup_s, vup_s], fun t ht => ?_⟩
  obtain ⟨a1, a2, a3, a4, a5⟩ := h.2 t (Nat.lt_of_lt_of_le ht k.1)
  obtain ⟨b1, b2, b3, b4, b5⟩ := k.2 t ht
  rw [vup_s]
  simp (disch := omega) only [vup_n]
  exact ⟨a1.trans b1, a2.trans b2, a3.trans b3, a4.trans b4, a5.trans b5⟩
-- letters by equal values
set_option maxRecDepth 20000 in
theorem bT_lt {y : Bool} {lt lt' : Nat → Int} {g : Int} : ∀ (w : List Int) (st : WSt) (t : Int) (X : TS) (ov : Bool), (∀ s ∈ w, 7 ≤ s → lt' (s - 7).toNat = lt (s - 7).toNat) → bT y lt' g w st t X ov = bT y lt g w st t X ov := by
  intro w
  induction w with
  | nil => intro st t X ov _; rfl
  | cons s w ih =>
    intro st t X ov h
    simp only [bT]
    have ih' := fun st t X ov => ih st t X ov (fun x hx => h x (List.mem_cons_of_mem _ hx))
    by_cases c : 4 ≤ s ∧ s ≤ 6
    · rw [if_pos c, if_pos c, ih']
    · rw [if_neg c, if_neg c]
      by_cases c7 : 7 ≤ s
      · rw [if_pos c7, if_pos c7, h s List.mem_cons_self c7, ih']
      · rw [if_neg c7, if_neg c7, ih']
