/-! ===== 70: what building by words keeps; how far a SENTENCE reads (no machine) ===== -/
def StOK (n : Nat) (st : WSt) : Prop := ∀ q ∈ st, 4 ≤ q.1 ∧ q.1 ≤ 6 ∧ -1 ≤ q.2 ∧ q.2 < n
def MsOK (n : Nat) (ms : List Int) : Prop := ∀ t ∈ ms, 0 ≤ t ∧ t < n
/-- those that came are CLASSES of their own -/
def TsNew (X X' : TS) : Prop := ∀ t, X.1 ≤ t → t < X'.1 → X'.2.2.2.2.2 t = (t : Int)
theorem StOK.mono {n n' : Nat} {st : WSt} (h : StOK n st) (hn : n ≤ n') : StOK n' st := fun q hq => by have := h q hq; omega
theorem MsOK.mono {n n' : Nat} {ms : List Int} (h : MsOK n ms) (hn : n ≤ n') : MsOK n' ms := fun q hq => by have := h q hq; omega
theorem MsOK.add {n : Nat} {ms : List Int} (h : MsOK n ms) {t : Int} (ht : 0 ≤ t ∧ t < n) : MsOK n (ms ++ [t]) := fun q hq => by
  rcases List.mem_append.mp hq with a | a
  · exact h q a
  · rw [List.mem_singleton.mp a]; exact ht
theorem TsNew.trans {X Y Z : TS} (a : TsNew X Y) (b : TsNew Y Z) (e : TsExt Y Z) : TsNew X Z := fun t t1 t2 => by
  by_cases z : t < Y.1
  · rw [(e.2 t z).2.2.2.2]; exact a t t1 z
  · exact b t (by omega) t2
theorem tsCome_new {X X' : TS} {s a b g t : Int} (h : tsCome X s a b g = some (t, X')) : TsNew X X' := by
  unfold tsCome at h
  split at h
  · split at h
    · simp only [Option.some.injEq, Prod.mk.injEq] at h
      obtain ⟨rfl, rfl⟩ := h
      intro j j1 j2
      have : j = X.1 := by simp only [tsAdd] at j2; omega
      subst this
      simp only [tsAdd, vup_s]
    · cases h
  · simp only [Option.some.injEq, Prod.mk.injEq] at h
    obtain ⟨rfl, rfl⟩ := h
    intro j j1 j2; omega
theorem wtW_ok {g : Int} (hg : 0 ≤ g ∧ g ≤ 9) : ∀ (st : WSt) (t : Int) (X : TS) (ms : List Int) (st' : WSt) (X' : TS) (ms' : List Int), wtW g st t X ms = some (st', X', ms') → TsOK X → StOK X.1 st → (0 ≤ t ∧ t < X.1) → MsOK X.1 ms → TsOK X' ∧ TsExt X X' ∧ TsNew X X' ∧ StOK X'.1 st' ∧ MsOK X'.1 ms' ∧ ∃ r, ms' = ms ++ r := by
  intro st
  induction st with
  | nil =>
    intro t X ms st' X' ms' h hX hS _ hm
    simp only [wtW, Option.some.injEq, Prod.mk.injEq] at h
    obtain ⟨rfl, rfl, rfl⟩ := h
    exact ⟨hX, TsExt.rfl, fun t a b => by omega, hS, hm, [], by simp⟩
  | cons q st ih =>
    intro t X ms st' X' ms' h hX hS ht hm
    have hq := hS q List.mem_cons_self
    have hS' : StOK X.1 st := fun x hx => hS x (List.mem_cons_of_mem _ hx)
    simp only [wtW] at h
    by_cases c : q.1 = 6 ∧ q.2 < 0
    · rw [if_pos c] at h
      simp only [Option.some.injEq, Prod.mk.injEq] at h
      obtain ⟨rfl, rfl, rfl⟩ := h
      refine ⟨hX, TsExt.rfl, fun t a b => by omega, fun x hx => ?_, hm, [], by simp⟩
      rcases List.mem_cons.mp hx with e | e
      · rw [e]; simp only; omega
      · exact hS' x e
    · rw [if_neg c] at h
      cases hc : tsCome X q.1 (if q.1 = 6 then q.2 else t) (if q.1 = 6 then t else -1) g with
      | none => rw [hc] at h; cases h
      | some o =>
        obtain ⟨t1, X1⟩ := o
        rw [hc] at h
        simp only [Option.bind_some] at h
        have hp : PtOK X.1 q.1 (if q.1 = 6 then q.2 else t) (if q.1 = 6 then t else -1) := by
          by_cases c6 : q.1 = 6
          · rw [if_pos c6, if_pos c6]; exact ⟨by omega, by omega, fun z => by omega, fun z => by omega, fun z => by omega, fun z => ht⟩
          · rw [if_neg c6, if_neg c6]; exact ⟨by omega, by omega, fun z => by omega, fun z => ht, fun z => rfl, fun z => absurd z c6⟩
        obtain ⟨o1, o2⟩ := tsCome_ok hc hX hp hg
        have hi := tsCome_in hc
        obtain ⟨a, b, c, d, e, r, hr⟩ := ih t1 X1 _ st' X' ms' h o1 (hS'.mono hi.1) ⟨hi.2.2.1, hi.2.2.2.1⟩ ((hm.mono hi.1).add ⟨hi.2.2.1, hi.2.2.2.1⟩)
        exact ⟨a, o2.trans b, (tsCome_new hc).trans c b, d, e, t1 :: r, by rw [hr]; simp⟩
theorem bW_ok {lt : Nat → Int} {g : Int} (hg : 0 ≤ g ∧ g ≤ 9) : ∀ (w : List Int) (st : WSt) (X : TS) (ms : List Int) (X' : TS) (ms' : List Int), bW lt g w st X ms = some (X', ms') → (∀ s ∈ w, 0 ≤ s ∧ s ≤ 9) → (∀ s ∈ w, 7 ≤ s → 0 ≤ lt (s - 7).toNat ∧ lt (s - 7).toNat < X.1) → TsOK X → StOK X.1 st → MsOK X.1 ms → TsOK X' ∧ TsExt X X' ∧ TsNew X X' ∧ MsOK X'.1 ms' ∧ ∃ r, ms' = ms ++ r := by
  intro w
  induction w with
  | nil =>
    intro st X ms X' ms' h _ _ hX _ hm
    simp only [bW, Option.some.injEq, Prod.mk.injEq] at h
    obtain ⟨rfl, rfl⟩ := h
    exact ⟨hX, TsExt.rfl, fun t a b => by omega, hm, [], by simp⟩
  | cons s w ih =>
    intro st X ms X' ms' h h9 hl hX hS hm
    have h9s := h9 s List.mem_cons_self
    have h9' : ∀ s ∈ w, 0 ≤ s ∧ s ≤ 9 := fun x hx => h9 x (List.mem_cons_of_mem _ hx)
    have hl' : ∀ s ∈ w, 7 ≤ s → 0 ≤ lt (s - 7).toNat ∧ lt (s - 7).toNat < X.1 := fun x hx => hl x (List.mem_cons_of_mem _ hx)
    simp only [bW] at h
    by_cases c : 4 ≤ s ∧ s ≤ 6
    · rw [if_pos c] at h
      refine ih _ X ms X' ms' h h9' hl' hX (fun x hx => ?_) hm
      rcases List.mem_cons.mp hx with e | e
      · rw [e]; simp only; omega
      · exact hS x e
    · rw [if_neg c] at h
      have fin : ∀ (t : Int) (X1 : TS), TsOK X1 → TsExt X X1 → TsNew X X1 → (0 ≤ t ∧ t < X1.1) → (wtW g st t X1 (ms ++ [t])).bind (fun q => bW lt g w q.1 q.2.1 q.2.2) = some (X', ms') → TsOK X' ∧ TsExt X X' ∧ TsNew X X' ∧ MsOK X'.1 ms' ∧ ∃ r, ms' = ms ++ r := by
        intro t X1 k1 k2 k3 k4 k5
        cases hw : wtW g st t X1 (ms ++ [t]) with
        | none => rw [hw] at k5; cases k5
        | some o =>
          obtain ⟨st2, X2, ms2⟩ := o
          rw [hw] at k5
          simp only [Option.bind_some] at k5
          obtain ⟨a, b, c, d, e, r, hr⟩ := wtW_ok hg _ _ _ _ _ _ _ hw k1 (hS.mono k2.1) k4 ((hm.mono k2.1).add k4)
          obtain ⟨a', b', c', d', r', hr'⟩ := ih st2 X2 ms2 X' ms' k5 h9' (fun x hx h7 => by have := hl' x hx h7; have := k2.1; have := b.1; omega) a d e
          exact ⟨a', (k2.trans b).trans b', (k3.trans c b).trans c' b', d', t :: (r ++ r'), by rw [hr', hr]; simp⟩
      by_cases c7 : 7 ≤ s
      · rw [if_pos c7] at h
        simp only [Option.bind_some] at h
        exact fin _ X hX TsExt.rfl (fun t a b => by omega) (hl s List.mem_cons_self c7) h
      · rw [if_neg c7] at h
        cases hc : tsCome X s (-1) (-1) g with
        | none => rw [hc] at h; cases h
        | some o =>
          obtain ⟨t1, X1⟩ := o
          rw [hc] at h
          simp only [Option.bind_some] at h
          obtain ⟨o1, o2⟩ := tsCome_ok hc hX ⟨by omega, by omega, fun _ => rfl, fun z => by omega, fun _ => rfl, fun z => by omega⟩ hg
          have hi := tsCome_in hc
          exact fin t1 X1 o1 o2 (tsCome_new hc) ⟨hi.2.2.1, hi.2.2.2.1⟩ h
theorem wtW_ne {g : Int} : ∀ (st : WSt) (t : Int) (X : TS) (ms : List Int) (st' : WSt) (X' : TS) (ms' : List Int), wtW g st t X ms = some (st', X', ms') → ∃ r, ms' = ms ++ r := by
  intro st
  induction st with
  | nil =>
    intro t X ms st' X' ms' h
    simp only [wtW, Option.some.injEq, Prod.mk.injEq] at h
    exact ⟨[], by rw [← h.2.2]; simp⟩
  | cons q st ih =>
    intro t X ms st' X' ms' h
    simp only [wtW] at h
    split at h
    · simp only [Option.some.injEq, Prod.mk.injEq] at h
      exact ⟨[], by rw [← h.2.2]; simp⟩
    · cases hc : tsCome X q.1 (if q.1 = 6 then q.2 else t) (if q.1 = 6 then t else -1) g with
      | none => rw [hc] at h; cases h
      | some o =>
        rw [hc] at h
        simp only [Option.bind_some] at h
        obtain ⟨r, hr⟩ := ih _ _ _ _ _ _ h
        exact ⟨o.1 :: r, by rw [hr]; simp⟩
/-- a word with a plain sign or a LETTER in it makes something -/
theorem bW_ne {lt : Nat → Int} {g : Int} : ∀ (w : List Int) (st : WSt) (X : TS) (ms : List Int) (X' : TS) (ms' : List Int), bW lt g w st X ms = some (X', ms') → (ms ≠ [] ∨ ∃ s ∈ w, s < 4 ∨ 7 ≤ s) → ms' ≠ [] := by
  intro w
  induction w with
  | nil =>
    intro st X ms X' ms' h hne
    simp only [bW, Option.some.injEq, Prod.mk.injEq] at h
    rcases hne with a | ⟨s, hs, _⟩
    · rw [← h.2]; exact a
    · cases hs
  | cons s w ih =>
    intro st X ms X' ms' h hne
    simp only [bW] at h
    split at h
    · next c =>
      refine ih _ _ _ _ _ h ?_
      rcases hne with a | ⟨x, hx, k⟩
      · exact Or.inl a
      · rcases List.mem_cons.mp hx with e | e
        · omega
        · exact Or.inr ⟨x, e, k⟩
    · next c =>
      cases ho : (if 7 ≤ s then some (lt (s - 7).toNat, X) else tsCome X s (-1) (-1) g) with
      | none => rw [ho] at h; cases h
      | some o =>
        rw [ho] at h
        simp only [Option.bind_some] at h
        cases hw : wtW g st o.1 o.2 (ms ++ [o.1]) with
        | none => rw [hw] at h; cases h
        | some q =>
          obtain ⟨st2, X2, ms2⟩ := q
          rw [hw] at h
          simp only [Option.bind_some] at h
          obtain ⟨r, hr⟩ := wtW_ne _ _ _ _ _ _ _ hw
          exact ih _ _ _ _ _ h (Or.inl (by rw [hr]; simp))
/-- what a side's reading keeps: its place, and the signs -/
theorem clW_b {b : Nat → Int} {n : Nat} : ∀ (nd : List Nat) (p : Nat), p ≤ n → p ≤ (clW b n nd p).2.2 ∧ (clW b n nd p).2.2 ≤ n := by
  intro nd
  induction nd with
  | nil => intro p hp; exact ⟨Nat.le_refl _, hp⟩
  | cons m r ih =>
    intro p hp
    simp only [clW]
    have a := tkP_b (b := b) hp (c := 44) (by decide)
    have c := tkP_b (b := b) hp (c := 41) (by decide)
    split
    · exact ⟨a.1, a.2.1⟩
    · split
      · have := ih (tkP b n p 41) c.2.1; exact ⟨by omega, this.2⟩
      · exact ⟨c.1, c.2.1⟩
theorem sdW_b {b : Nat → Int} {n may : Nat} : ∀ (k : Nat) (nd : List Nat) (w : List Int) (p : Nat), p ≤ n → p ≤ (sdW b n may k nd w p).2.1 ∧ (sdW b n may k nd w p).2.1 ≤ n ∧ ((sdW b n may k nd w p).1 = true → p + 1 ≤ (sdW b n may k nd w p).2.1) ∧ ((∀ s ∈ w, 0 ≤ s ∧ s ≤ 9 ∧ (7 ≤ s → may.testBit (s - 7).toNat = true)) → ∀ s ∈ (sdW b n may k nd w p).2.2, 0 ≤ s ∧ s ≤ 9 ∧ (7 ≤ s → may.testBit (s - 7).toNat = true)) ∧ ((sdW b n may k nd w p).1 = true → ∃ s ∈ (sdW b n may k nd w p).2.2, s < 4 ∨ 7 ≤ s) ∧ w.length ≤ (sdW b n may k nd w p).2.2.length ∧ (sdW b n may k nd w p).2.2.length + p ≤ w.length + (sdW b n may k nd w p).2.1 := by
  intro k
  induction k with
  | zero => intro nd w p hp; exact ⟨Nat.le_refl _, hp, fun h => by simp [sdW] at h, fun h => h, fun h => by simp [sdW] at h, Nat.le_refl _, Nat.le_refl _⟩
  | succ k ih =>
    intro nd w p hp
    have hs := skp_b (b := b) hp
    have hsb := sgOf_b (byt b n (skp b n p))
    have hin := sgOf_in (b := b) (n := n) (p := skp b n p)
    simp only [sdW]
    generalize sgOf (byt b n (skp b n p)) = s at *
    by_cases c1 : s = -1 ∨ (7 ≤ s ∧ may.testBit (s - 7).toNat = false)
    · rw [if_pos c1]
      exact ⟨hs.1, hs.2, fun h => by simp at h, fun h => h, fun h => by simp at h, Nat.le_refl _, by show w.length + p ≤ w.length + skp b n p; omega⟩
    · rw [if_neg c1]
      have hlt := hin (fun e => c1 (Or.inl e))
      have hw1 : (∀ s ∈ w, 0 ≤ s ∧ s ≤ 9 ∧ (7 ≤ s → may.testBit (s - 7).toNat = true)) → ∀ x ∈ w ++ [s], 0 ≤ x ∧ x ≤ 9 ∧ (7 ≤ x → may.testBit (x - 7).toNat = true) := fun h x hx => by
        rcases List.mem_append.mp hx with e | e
        · exact h x e
        · rw [List.mem_singleton.mp e]
          refine ⟨by omega, hsb.2, fun h7 => ?_⟩
          cases hb : may.testBit (s - 7).toNat with
          | true => rfl
          | false => exact absurd (Or.inr ⟨h7, hb⟩) c1
      have hl1 : (w ++ [s]).length = w.length + 1 := by simp
      by_cases c2 : 4 ≤ s ∧ s ≤ 6
      · rw [if_pos c2]
        have ht := tkP_b (b := b) (n := n) (p := skp b n p + 1) (by omega) (c := 40) (by decide)
        by_cases c3 : tkB b n (skp b n p + 1) 40
        · rw [if_pos c3]
          obtain ⟨a1, a2, a3, a4, a5, a6, a7⟩ := ih ((if s = 6 then 2 else 1) :: nd) (w ++ [s]) (tkP b n (skp b n p + 1) 40) ht.2.1
          exact ⟨by omega, a2, fun h => by have := a3 h; omega, fun h => a4 (hw1 h), a5, by omega, by omega⟩
        · rw [if_neg c3]
          exact ⟨by show p ≤ tkP b n (skp b n p + 1) 40; omega, ht.2.1, fun h => by simp at h, hw1, fun h => by simp at h, by show w.length ≤ (w ++ [s]).length; omega, by show (w ++ [s]).length + p ≤ w.length + tkP b n (skp b n p + 1) 40; omega⟩
      · rw [if_neg c2]
        have hc := clW_b (b := b) (n := n) nd (skp b n p + 1) (by omega)
        generalize clW b n nd (skp b n p + 1) = r at *
        have hex : ∃ x ∈ w ++ [s], x < 4 ∨ 7 ≤ x := ⟨s, List.mem_append_right _ (List.mem_singleton.mpr rfl), by omega⟩
        by_cases d1 : r.1 = false
        · rw [if_pos d1]
          exact ⟨by show p ≤ r.2.2; omega, hc.2, fun h => by simp at h, hw1, fun _ => hex, by show w.length ≤ (w ++ [s]).length; omega, by show (w ++ [s]).length + p ≤ w.length + r.2.2; omega⟩
        · rw [if_neg d1]
          by_cases d2 : r.2.1 = []
          · rw [if_pos d2]
            exact ⟨by show p ≤ r.2.2; omega, hc.2, fun _ => by show p + 1 ≤ r.2.2; omega, hw1, fun _ => hex, by show w.length ≤ (w ++ [s]).length; omega, by show (w ++ [s]).length + p ≤ w.length + r.2.2; omega⟩
          · rw [if_neg d2]
            obtain ⟨a1, a2, a3, a4, a5, a6, a7⟩ := ih r.2.1 (w ++ [s]) r.2.2 hc.2
            exact ⟨by omega, a2, fun h => by have := a3 h; omega, fun h => a4 (hw1 h), a5, by omega, by omega⟩
