/-! ===== 75: the pure state that both sides are held against (no machine) ===== -/
theorem TsEq.rfl' {X : TS} : TsEq X X := ⟨rfl, fun _ _ => ⟨rfl, rfl, rfl, rfl, rfl⟩⟩
theorem TsEq.symm' {X Y : TS} (h : TsEq X Y) : TsEq Y X := ⟨h.1.symm, fun t ht => by
  obtain ⟨a, b, c, d, e⟩ := h.2 t (by rw [← h.1]; exact ht)
  exact ⟨a.symm, b.symm, c.symm, d.symm, e.symm⟩⟩
theorem TsEq.trans' {X Y Z : TS} (h : TsEq X Y) (g : TsEq Y Z) : TsEq X Z := ⟨g.1.trans h.1, fun t ht => by
  obtain ⟨a, b, c, d, e⟩ := h.2 t ht
  obtain ⟨a', b', c', d', e'⟩ := g.2 t (by rw [h.1]; exact ht)
  exact ⟨a'.trans a, b'.trans b, c'.trans c, d'.trans d, e'.trans e⟩⟩
/-- as TsEq, homes left out -/
def TsE4 (X Y : TS) : Prop := Y.1 = X.1 ∧ ∀ t, t < X.1 → Y.2.1 t = X.2.1 t ∧ Y.2.2.1 t = X.2.2.1 t ∧ Y.2.2.2.1 t = X.2.2.2.1 t ∧ Y.2.2.2.2.1 t = X.2.2.2.2.1 t
theorem TsEq.e4 {X Y : TS} (h : TsEq X Y) : TsE4 X Y := ⟨h.1, fun t ht => ⟨(h.2 t ht).1, (h.2 t ht).2.1, (h.2 t ht).2.2.1, (h.2 t ht).2.2.2.1⟩⟩
/-- a TERM comes by SIGNS and PARTS alone -/
theorem tsCome_e4 {X Y : TS} (h : TsE4 X Y) (s a b g : Int) : (tsCome X s a b g = none ∧ tsCome Y s a b g = none) ∨ ∃ t X' Y', tsCome X s a b g = some (t, X') ∧ tsCome Y s a b g = some (t, Y') ∧ TsE4 X' Y' := by
  have hl : tsLk Y s a b = tsLk X s a b := by
    unfold tsLk
    rw [h.1]
    exact tmScan_cg _ _ (fun y _ hy => by
      obtain ⟨e1, e2, e3, _⟩ := h.2 y (by omega)
      rw [e1, e2, e3])
  unfold tsCome
  rw [hl, h.1]
  by_cases c : tsLk X s a b = -1
  · rw [if_pos c, if_pos c]
    by_cases c5 : X.1 < 50
    · rw [if_pos c5, if_pos c5]
      refine Or.inr ⟨_, _, _, rfl, rfl, by simp only [tsAdd]; rw [h.1], fun t ht => ?_⟩
      simp only [tsAdd, h.1] at ht ⊢
      by_cases e : t = X.1
      · subst e; simp only [vup_s, and_self]
      · simp only [vup_n e]; exact h.2 t (by omega)
    · rw [if_neg c5, if_neg c5]; exact Or.inl ⟨rfl, rfl⟩
  · rw [if_neg c, if_neg c]
    exact Or.inr ⟨_, _, _, rfl, rfl, h⟩
theorem wtW_e4 {g : Int} : ∀ (st : WSt) (t : Int) (X Y : TS) (ms : List Int), TsE4 X Y → (wtW g st t X ms = none ∧ wtW g st t Y ms = none) ∨ ∃ st' X' Y' ms', wtW g st t X ms = some (st', X', ms') ∧ wtW g st t Y ms = some (st', Y', ms') ∧ TsE4 X' Y' := by
  intro st
  induction st with
  | nil => intro t X Y ms h; exact Or.inr ⟨_, _, _, _, rfl, rfl, h⟩
  | cons q st ih =>
    intro t X Y ms h
    simp only [wtW]
    by_cases c : q.1 = 6 ∧ q.2 < 0
    · rw [if_pos c, if_pos c]; exact Or.inr ⟨_, _, _, _, rfl, rfl, h⟩
    · rw [if_neg c, if_neg c]
      rcases tsCome_e4 h q.1 (if q.1 = 6 then q.2 else t) (if q.1 = 6 then t else -1) g with ⟨a, b⟩ | ⟨t1, X1, Y1, a, b, e⟩
      · rw [a, b]; exact Or.inl ⟨rfl, rfl⟩
      · rw [a, b]; exact ih t1 X1 Y1 _ e
theorem bW_e4 {lt lt' : Nat → Int} {g : Int} : ∀ (w : List Int) (st : WSt) (X Y : TS) (ms : List Int), TsE4 X Y → (∀ s ∈ w, 7 ≤ s → lt' (s - 7).toNat = lt (s - 7).toNat) → (bW lt g w st X ms = none ∧ bW lt' g w st Y ms = none) ∨ ∃ X' Y' ms', bW lt g w st X ms = some (X', ms') ∧ bW lt' g w st Y ms = some (Y', ms') ∧ TsE4 X' Y' := by
  intro w
  induction w with
  | nil => intro st X Y ms h _; exact Or.inr ⟨_, _, _, rfl, rfl, h⟩
  | cons s w ih =>
    intro st X Y ms h hl
    have hl' : ∀ s ∈ w, 7 ≤ s → lt' (s - 7).toNat = lt (s - 7).toNat := fun x hx => hl x (List.mem_cons_of_mem _ hx)
    simp only [bW]
    by_cases c : 4 ≤ s ∧ s ≤ 6
    · rw [if_pos c, if_pos c]; exact ih _ X Y ms h hl'
    · rw [if_neg c, if_neg c]
      have fin : ∀ (t : Int) (X1 Y1 : TS), TsE4 X1 Y1 → (((wtW g st t X1 (ms ++ [t])).bind (fun q => bW lt g w q.1 q.2.1 q.2.2) = none ∧ (wtW g st t Y1 (ms ++ [t])).bind (fun q => bW lt' g w q.1 q.2.1 q.2.2) = none) ∨ ∃ X' Y' ms', (wtW g st t X1 (ms ++ [t])).bind (fun q => bW lt g w q.1 q.2.1 q.2.2) = some (X', ms') ∧ (wtW g st t Y1 (ms ++ [t])).bind (fun q => bW lt' g w q.1 q.2.1 q.2.2) = some (Y', ms') ∧ TsE4 X' Y') := by
        intro t X1 Y1 e
        rcases wtW_e4 st t X1 Y1 (ms ++ [t]) e with ⟨a, b⟩ | ⟨st', X', Y', ms', a, b, e'⟩
        · rw [a, b]; exact Or.inl ⟨rfl, rfl⟩
        · rw [a, b]; exact ih st' X' Y' ms' e' hl'
      by_cases c7 : 7 ≤ s
      · rw [if_pos c7, if_pos c7, hl s List.mem_cons_self c7]
        exact fin _ X Y h
      · rw [if_neg c7, if_neg c7]
        rcases tsCome_e4 h s (-1) (-1) g with ⟨a, b⟩ | ⟨t, X', Y', a, b, e⟩
        · rw [a, b]; exact Or.inl ⟨rfl, rfl⟩
        · rw [a, b]; exact fin t X' Y' e
theorem tsCome_e5 {X Y : TS} (h : TsEq X Y) (s a b g : Int) : (tsCome X s a b g = none ∧ tsCome Y s a b g = none) ∨ ∃ t X' Y', tsCome X s a b g = some (t, X') ∧ tsCome Y s a b g = some (t, Y') ∧ TsEq X' Y' := by
  rcases tsCome_e4 h.e4 s a b g with q | ⟨t, X', Y', a1, b1, e⟩
  · exact Or.inl q
  · refine Or.inr ⟨t, X', Y', a1, b1, e.1, fun j hj => ?_⟩
    obtain ⟨e1, e2, e3, e4⟩ := e.2 j hj
    refine ⟨e1, e2, e3, e4, ?_⟩
    have x := tsCome_in a1
    have y := tsCome_in b1
    by_cases z : j < X.1
    · rw [(x.2.2.2.2 j z).2.2.2.2, (y.2.2.2.2 j (by rw [h.1]; exact z)).2.2.2.2]; exact (h.2 j z).2.2.2.2
    · rw [tsCome_new a1 j (by omega) hj, tsCome_new b1 j (by rw [h.1]; omega) (by rw [e.1]; exact hj)]
/-- building, for the same TERMS and LETTERS -/
theorem bW_e5 {lt lt' : Nat → Int} {g : Int} (hg : 0 ≤ g ∧ g ≤ 9) {w : List Int} {X Y : TS} (hX : TsOK X) (hY : TsOK Y) (h : TsEq X Y) (h9 : ∀ s ∈ w, 0 ≤ s ∧ s ≤ 9) (hl : ∀ s ∈ w, 7 ≤ s → lt' (s - 7).toNat = lt (s - 7).toNat ∧ 0 ≤ lt (s - 7).toNat ∧ lt (s - 7).toNat < X.1) : (bW lt g w [] X [] = none ∧ bW lt' g w [] Y [] = none) ∨ ∃ X' Y' ms', bW lt g w [] X [] = some (X', ms') ∧ bW lt' g w [] Y [] = some (Y', ms') ∧ TsEq X' Y' := by
  rcases bW_e4 (lt := lt) (lt' := lt') (g := g) w [] X Y [] h.e4 (fun s hs h7 => (hl s hs h7).1) with q | ⟨X', Y', ms', a, b, e⟩
  · exact Or.inl q
  · refine Or.inr ⟨X', Y', ms', a, b, e.1, fun j hj => ?_⟩
    obtain ⟨e1, e2, e3, e4⟩ := e.2 j hj
    refine ⟨e1, e2, e3, e4, ?_⟩
    obtain ⟨_, x1, x2, _⟩ := bW_ok hg w [] X [] X' ms' a h9 (fun s hs h7 => (hl s hs h7).2) hX (fun q hq => by cases hq) (fun q hq => by cases hq)
    obtain ⟨_, y1, y2, _⟩ := bW_ok hg w [] Y [] Y' ms' b h9 (fun s hs h7 => by have := hl s hs h7; rw [this.1, h.1]; exact this.2) hY (fun q hq => by cases hq) (fun q hq => by cases hq)
    by_cases z : j < X.1
    · rw [(x1.2 j z).2.2.2.2, (y1.2 j (by rw [h.1]; exact z)).2.2.2.2]; exact (h.2 j z).2.2.2.2
    · rw [x2 j (by omega) hj, y2 j (by rw [h.1]; omega) (by rw [e.1]; exact hj)]
/-- the closure -/
noncomputable def clH (X : TS) : Nat → Int := Classical.epsilon (fun h => IsCl X.1 X.2.1 X.2.2.1 X.2.2.2.1 X.2.2.2.2.2 h)
noncomputable def clX (X : TS) : TS := (X.1, X.2.1, X.2.2.1, X.2.2.2.1, X.2.2.2.2.1, clH X)
theorem clH_is {X : TS} {h : Nat → Int} (hh : IsCl X.1 X.2.1 X.2.2.1 X.2.2.2.1 X.2.2.2.2.2 h) : IsCl X.1 X.2.1 X.2.2.1 X.2.2.2.1 X.2.2.2.2.2 (clH X) := Classical.epsilon_spec ⟨h, hh⟩
theorem tmHome_le {n : Nat} {h h' : Nat → Int} (e : ∀ t, t < n → h' t = h t) (x : Int) : tmHome n h' x = tmHome n h x := tmHome_cg e x
theorem HLe_cg {n : Nat} {h g h' g' : Nat → Int} (e1 : ∀ t, t < n → h' t = h t) (e2 : ∀ t, t < n → g' t = g t) (x : HLe n h g) : HLe n h' g' := fun t u ht hu e => by
  rw [e2 t ht, e2 u hu]
  refine x t u ht hu ?_
  rw [← e1 t ht, ← e1 u hu]; exact e
theorem HO_cg {n : Nat} {h h' : Nat → Int} (e : ∀ t, t < n → h' t = h t) (x : HO n h) : HO n h' := fun t ht => by
  have := x t ht
  rw [e t ht, e (h t).toNat (by omega)]
  exact this
theorem HClosed_cg {n : Nat} {sg on ot h sg' on' ot' h' : Nat → Int} (e : ∀ t, t < n → sg' t = sg t ∧ on' t = on t ∧ ot' t = ot t) (eh : ∀ t, t < n → h' t = h t) (x : HClosed n sg on ot h) : HClosed n sg' on' ot' h' := fun t u ht hu c => by
  rw [eh t ht, eh u hu]
  refine x t u ht hu ?_
  obtain ⟨c1, c2, c3⟩ := c
  obtain ⟨a1, a2, a3⟩ := e t ht
  obtain ⟨b1, b2, b3⟩ := e u hu
  rw [a1, b1] at c1
  rw [a2, b2, tmHome_cg eh, tmHome_cg eh] at c2
  rw [a3, b3, tmHome_cg eh, tmHome_cg eh] at c3
  exact ⟨c1, c2, c3⟩
theorem IsCl_cg {n : Nat} {sg on ot h0 h sg' on' ot' h0' h' : Nat → Int} (e : ∀ t, t < n → sg' t = sg t ∧ on' t = on t ∧ ot' t = ot t) (e0 : ∀ t, t < n → h0' t = h0 t) (eh : ∀ t, t < n → h' t = h t) (x : IsCl n sg on ot h0 h) : IsCl n sg' on' ot' h0' h' := by
  obtain ⟨⟨a, b, c⟩, d⟩ := x
  refine ⟨⟨HO_cg eh a, HLe_cg e0 eh b, fun g hg hl hc => ?_⟩, HClosed_cg e eh d⟩
  exact HLe_cg eh (fun _ _ => rfl) (c g hg (HLe_cg (fun t ht => (e0 t ht).symm) (fun _ _ => rfl) hl) (HClosed_cg (fun t ht => ⟨(e t ht).1.symm, (e t ht).2.1.symm, (e t ht).2.2.symm⟩) (fun _ _ => rfl) hc))
/-- any closure is clX, below n -/
theorem clX_eq {X Y : TS} (h : TsEq X Y) {g : Nat → Int} (hg : IsCl Y.1 Y.2.1 Y.2.2.1 Y.2.2.2.1 Y.2.2.2.2.2 g) : TsEq (clX X) (Y.1, Y.2.1, Y.2.2.1, Y.2.2.2.1, Y.2.2.2.2.1, g) ∧ IsCl X.1 X.2.1 X.2.2.1 X.2.2.2.1 X.2.2.2.2.2 (clH X) := by
  have hx : IsCl X.1 X.2.1 X.2.2.1 X.2.2.2.1 X.2.2.2.2.2 g := by
    rw [h.1] at hg
    exact IsCl_cg (fun t ht => ⟨(h.2 t ht).1.symm, (h.2 t ht).2.1.symm, (h.2 t ht).2.2.1.symm⟩) (fun t ht => (h.2 t ht).2.2.2.2.symm) (fun _ _ => rfl) hg
  have hc := clH_is hx
  refine ⟨⟨h.1, fun t ht => ?_⟩, hc⟩
  obtain ⟨a, b, c, d, _⟩ := h.2 t ht
  exact ⟨a, b, c, d, IsCl.uniq hx hc t ht⟩
