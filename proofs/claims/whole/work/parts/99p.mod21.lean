/-! ===== 99p: the total build against bW ===== -/
def lastZ (ms : List Int) : Int := ms.getLastD (-1)
set_option maxRecDepth 20000 in
theorem wtT_ov {y : Bool} {g : Int} : ∀ (st : WSt) (t : Int) (X : TS), (wtT y g st t X true).2.2.2 = true := by
  intro st
  induction st with
  | nil => intro t X; rfl
  | cons q r ih =>
    intro t X
    simp only [wtT]
    split
    · rfl
    · simp only [Bool.true_or]; exact ih _ _
set_option maxRecDepth 20000 in
theorem bT_ov {y : Bool} {lt : Nat → Int} {g : Int} : ∀ (w : List Int) (st : WSt) (t : Int) (X : TS), (bT y lt g w st t X true).2.2.2 = true := by
  intro w
  induction w with
  | nil => intro st t X; rfl
  | cons s w ih =>
    intro st t X
    simp only [bT]
    split
    · exact ih _ _ _
    · simp only [Bool.true_or, wtT_ov]; exact ih _ _ _
-- not young: as wtW
set_option maxRecDepth 20000 in
theorem wtT_wtW {g : Int} : ∀ (st : WSt) (t : Int) (X : TS) (ms : List Int), (t = lastZ ms) → match wtW g st t X ms with
    | none => (wtT false g st t X false).2.2.2 = true
    | some o => (wtT false g st t X false).1 = o.1 ∧ (wtT false g st t X false).2.2.1 = o.2.1 ∧ (wtT false g st t X false).2.2.2 = false ∧ (o.1 = [] → (wtT false g st t X false).2.1 = lastZ o.2.2) := by
  intro st
  induction st with
  | nil => intro t X ms h; exact ⟨rfl, rfl, rfl, fun _ => h⟩
  | cons q r ih =>
    intro t X ms h
    simp only [wtW, wtT]
    by_cases c : q.1 = 6 ∧ q.2 < 0
    · rw [if_pos c, if_pos c]; exact ⟨rfl, rfl, rfl, fun z => by cases z⟩
    · rw [if_neg c, if_neg c]
      unfold comeT
      cases hc : tsCome X q.1 (if q.1 = 6 then q.2 else t) (if q.1 = 6 then t else -1) g with
      | none =>
        simp only [Option.bind_none, Bool.or_true]
        exact wtT_ov _ _ _
      | some o =>
        simp only [Option.bind_some, Bool.or_false, mdY]
        rw [if_neg (by decide)]
        exact ih o.1 o.2 (ms ++ [o.1]) (by unfold lastZ; simp)
set_option maxRecDepth 20000 in
theorem bT_bW {lt : Nat → Int} {g : Int} : ∀ (w : List Int) (st : WSt) (t : Int) (X : TS) (ms : List Int), (w = [] → st = [] → t = lastZ ms) → match bW lt g w st X ms with
    | none => (bT false lt g w st t X false).2.2.2 = true
    | some o => (bT false lt g w st t X false).2.2.1 = o.1 ∧ (bT false lt g w st t X false).2.2.2 = false ∧ ((bT false lt g w st t X false).1 = [] → (bT false lt g w st t X false).2.1 = lastZ o.2) := by
  intro w
  induction w with
  | nil => intro st t X ms h; exact ⟨rfl, rfl, h rfl⟩
  | cons s w ih =>
    intro st t X ms h
    simp only [bW, bT]
    by_cases c : 4 ≤ s ∧ s ≤ 6
    · rw [if_pos c, if_pos c]
      exact ih _ _ _ _ (fun _ z => by cases z)
    · rw [if_neg c, if_neg c]
      have key : ∀ (o : Int × TS), match (wtW g st o.1 o.2 (ms ++ [o.1])).bind (fun q => bW lt g w q.1 q.2.1 q.2.2) with
          | none => (bT false lt g w (wtT false g st o.1 o.2 false).1 (wtT false g st o.1 o.2 false).2.1 (wtT false g st o.1 o.2 false).2.2.1 (wtT false g st o.1 o.2 false).2.2.2).2.2.2 = true
          | some o' => (bT false lt g w (wtT false g st o.1 o.2 false).1 (wtT false g st o.1 o.2 false).2.1 (wtT false g st o.1 o.2 false).2.2.1 (wtT false g st o.1 o.2 false).2.2.2).2.2.1 = o'.1 ∧ (bT false lt g w (wtT false g st o.1 o.2 false).1 (wtT false g st o.1 o.2 false).2.1 (wtT false g st o.1 o.2 false).2.2.1 (wtT false g st o.1 o.2 false).2.2.2).2.2.2 = false ∧ ((bT false lt g w (wtT false g st o.1 o.2 false).1 (wtT false g st o.1 o.2 false).2.1 (wtT false g st o.1 o.2 false).2.2.1 (wtT false g st o.1 o.2 false).2.2.2).1 = [] → (bT false lt g w (wtT false g st o.1 o.2 false).1 (wtT false g st o.1 o.2 false).2.1 (wtT false g st o.1 o.2 false).2.2.1 (wtT false g st o.1 o.2 false).2.2.2).2.1 = lastZ o'.2) := fun o => by
        have hw := wtT_wtW (g := g) st o.1 o.2 (ms ++ [o.1]) (by unfold lastZ; simp)
        cases hc : wtW g st o.1 o.2 (ms ++ [o.1]) with
        | none =>
          rw [hc] at hw
          simp only [Option.bind_none]
          rw [hw]
          exact bT_ov _ _ _ _
        | some z =>
          rw [hc] at hw
          obtain ⟨h1, h2, h3, h4⟩ := hw
          simp only [Option.bind_some]
          rw [h3, h2, ← h1]
          exact ih _ _ _ _ (fun _ e => h4 (by rw [← h1]; exact e))
      by_cases c7 : 7 ≤ s
      · rw [if_pos c7, if_pos c7]
        simp only [Option.bind_some, Bool.or_false, mdY]
        rw [if_neg (by decide)]
        exact key (lt (s - 7).toNat, X)
      · rw [if_neg c7, if_neg c7]
        unfold comeT
        cases hc : tsCome X s (-1) (-1) g with
        | none =>
          simp only [Option.bind_none, Bool.or_true, wtT_ov]
          exact bT_ov _ _ _ _
        | some o =>
          simp only [Option.bind_some, Bool.or_false, mdY]
          rw [if_neg (by decide)]
          exact key o
/-- how many signs H wait for their first -/
def hn : WSt → Nat
  | [] => 0
  | q :: r => (if q.1 = 6 ∧ q.2 < 0 then 1 else 0) + hn r
set_option maxRecDepth 20000 in
theorem wtT_hn {y : Bool} {g : Int} : ∀ (st : WSt) (t : Int) (X : TS) (ov : Bool), X.1 ≤ 50 → 0 ≤ t → (hn st = 0 → (wtT y g st t X ov).1 = []) ∧ (1 ≤ hn st → hn (wtT y g st t X ov).1 + 1 = hn st ∧ (wtT y g st t X ov).1 ≠ []) := by
  intro st
  induction st with
  | nil => intro t X ov _ _; exact ⟨fun _ => rfl, fun z => by simp [hn] at z⟩
  | cons q r ih =>
    intro t X ov h50 ht
    simp only [wtT, hn]
    by_cases c : q.1 = 6 ∧ q.2 < 0
    · rw [if_pos c, if_pos c]
      refine ⟨fun z => by omega, fun _ => ⟨?_, fun z => by cases z⟩⟩
      simp only [hn]
      rw [if_neg (by omega)]
      omega
    · rw [if_neg c, if_neg c, Nat.zero_add]
      have hin := comeT_in h50 q.1 (if q.1 = 6 then q.2 else t) (if q.1 = 6 then t else -1) g
      exact ih _ _ _ (by rw [mdY_1]; exact hin.2.2.1) hin.1
set_option maxRecDepth 20000 in
theorem dpth_pos : ∀ w : List Int, okW w → w ≠ [] → 1 ≤ dpth w := by
  intro w h hn
  cases w with
  | nil => exact absurd rfl hn
  | cons s w =>
    obtain ⟨_, h2, h3⟩ := h
    simp only [dpth]
    by_cases a : 4 ≤ s ∧ s ≤ 5
    · rw [if_pos a]; exact h2 a.1 a.2
    · rw [if_neg a]
      by_cases b : s = 6
      · rw [if_pos b]; have := h3 b; omega
      · rw [if_neg b]; omega
-- a tree leaves nothing waiting
set_option maxRecDepth 20000 in
theorem bT_end {y : Bool} {lt : Nat → Int} {g : Int} : ∀ (w : List Int) (st : WSt) (t : Int) (X : TS) (ov : Bool), okW w → WOK st → X.1 ≤ 50 → (∀ s ∈ w, 7 ≤ s → 0 ≤ lt (s - 7).toNat ∧ lt (s - 7).toNat < X.1) → (dpth w = hn st + 1 ∨ (w = [] ∧ st = [])) → (bT y lt g w st t X ov).1 = [] := by
  intro w
  induction w with
  | nil =>
    intro st t X ov _ _ _ _ h
    rcases h with h | h
    · simp [dpth] at h
    · simp only [bT]; exact h.2
  | cons s w ih =>
    intro st t X ov ho hw h50 hlt h
    have h : dpth (s :: w) = hn st + 1 := by
      rcases h with h | h
      · exact h
      · cases h.1
    obtain ⟨o1, o2, o3⟩ := ho
    simp only [bT]
    simp only [dpth] at h
    by_cases c : 4 ≤ s ∧ s ≤ 6
    · rw [if_pos c]
      refine ih _ _ _ _ o1 (fun p hp => ?_) h50 (fun x hx => hlt x (List.mem_cons_of_mem _ hx)) (Or.inl ?_)
      · rcases List.mem_cons.mp hp with e | e
        · rw [e]; exact ⟨c, by simp only; omega⟩
        · exact hw p e
      · simp only [hn]
        by_cases b : s = 6
        · rw [if_pos ⟨b, by decide⟩]
          rw [if_neg (by omega), if_pos b] at h
          have := o3 b
          omega
        · rw [if_neg (fun z => b z.1)]
          rw [if_pos (by omega)] at h
          omega
    · rw [if_neg c]
      rw [if_neg (by omega), if_neg (by omega)] at h
      have key : ∀ (o : Int × TS × Bool) (ov' : Bool), 0 ≤ o.1 → o.1 < o.2.1.1 → o.2.1.1 ≤ 50 → X.1 ≤ o.2.1.1 → (bT y lt g w (wtT y g st o.1 (mdY y o.2.1 o.1) ov').1 (wtT y g st o.1 (mdY y o.2.1 o.1) ov').2.1 (wtT y g st o.1 (mdY y o.2.1 o.1) ov').2.2.1 (wtT y g st o.1 (mdY y o.2.1 o.1) ov').2.2.2).1 = [] := fun o ov' a1 a2 a3 a4 => by
        have wo := wtT_ok (y := y) (g := g) st o.1 (mdY y o.2.1 o.1) ov' hw (by rw [mdY_1]; exact a3) (by rw [mdY_1]; exact ⟨a1, a2⟩)
        have wh := wtT_hn (y := y) (g := g) st o.1 (mdY y o.2.1 o.1) ov' (by rw [mdY_1]; exact a3) a1
        rw [mdY_1] at wo
        refine ih _ _ _ _ o1 wo.1 wo.2.2.1 (fun x hx h7 => by have := hlt x (List.mem_cons_of_mem _ hx) h7; have := wo.2.2.2.1; omega) ?_
        by_cases z : hn st = 0
        · refine Or.inr ⟨?_, wh.1 z⟩
          by_cases e : w = []
          · exact e
          · have := dpth_pos w o1 e; omega
        · have := (wh.2 (by omega)).1
          exact Or.inl (by omega)
      by_cases c7 : 7 ≤ s
      · rw [if_pos c7]
        have hl := hlt s List.mem_cons_self c7
        exact key (lt (s - 7).toNat, X, false) _ hl.1 hl.2 h50 (Nat.le_refl _)
      · rw [if_neg c7]
        have hin := comeT_in h50 s (-1) (-1) g
        exact key _ _ hin.1 hin.2.1 hin.2.2.1 hin.2.2.2
