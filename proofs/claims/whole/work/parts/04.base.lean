/-! ===== 04: the layer: values, heaps by numbers, what the heap holds, contracts ===== -/
abbrev tmV : Type := Int ⊕ (Int64 ⊕ Nat)
abbrev tmS : Type := Nat × (Nat → Nat) × (Nat → Nat) × (Nat → Nat → Option Nat)
abbrev tmH : Type := tmS × (Nat → Nat → Int) × (Nat → Nat → Int64)
abbrev tmG : Type := va_G × ClassId × ClassId × ClassId × ClassId
abbrev tmMS : Type := String × ByteArray × Nat × Option FieldType × Bool
abbrev tI (a : Int) : tmV := .inl a
abbrev tL (a : Int64) : tmV := .inr (.inl a)
abbrev tR (a : Nat) : tmV := .inr (.inr a)
/-- the words that a contract of mine rests on -/
def tmT : List Cond := lw_tbl.filter goodWord
theorem tmT_in {w : Cond} (h : w ∈ tables_1) (hg : goodWord w = true) : w ∈ tmT := List.mem_filter.mpr ⟨List.mem_append_right _ h, hg⟩
theorem tmT_sel {q : MethodName × Nat} (h : q ∈ lw_privs) : Cond.selects q.1.cls q.1 q.1 ∈ tmT := by
  refine List.mem_filter.mpr ⟨List.mem_append_left _ (List.mem_map.mpr ⟨q, h, rfl⟩), ?_⟩
  rfl
theorem tmT_good : GoodIn tmT tmT := fun w h => ⟨h, good_of_word (List.mem_filter.mp h).2⟩
def tmt (b0 : Nat) : tmV → Value
  | .inl a => .int (Int32.ofInt a)
  | .inr (.inl x) => .long x
  | .inr (.inr i) => .ref (b0 + i)
/-- the kinds of the fields: 0 int, 1 reference, 2 long, 3 boolean -/
def tmft : Nat → List Nat
  | 0 => [1, 1, 1]
  | 1 => [1, 0]
  | 2 => [0, 0, 1, 1, 1, 1]
  | 3 => [1, 1, 1, 1, 1, 1, 1, 1]
  | 4 => [1, 1, 1, 0, 1, 1, 1]
  | 5 => [1, 1, 0, 1, 2, 1, 1, 1]
  | 6 => [1, 1, 0, 1]
  | 7 => [1, 0, 0]
  | 8 => [0, 1, 1, 1, 1, 1]
  | 9 => [1, 0, 1, 1, 1, 1, 1, 0, 0]
  | 10 => [1, 1, 0, 0]
  | 11 => [1, 1, 1, 1, 1, 1, 1, 1, 1, 0, 0]
  | 12 => [1, 1, 0, 1, 1, 1, 1, 1, 1, 0, 0, 1, 0, 1, 0, 0, 0, 1, 1, 1, 3, 1, 1, 1, 1, 1, 1, 1, 1, 1, 1, 0, 3]
  | _ => []
def tmfv (b0 : Nat) (h : tmH) (i ty k : Nat) : Value :=
  if ty = 1 then va_rf ((h.1.2.2.2 i k).map (b0 + ·)) else if ty = 2 then .long (h.2.2 i k) else .int (Int32.ofInt (h.2.1 i k))
def tmfs (b0 : Nat) (h : tmH) (i : Nat) : List Nat → Nat → List Value
  | [], _ => []
  | ty :: r, k => tmfv b0 h i ty k :: tmfs b0 h i r (k + 1)
def tmc (b0 : Nat) (G : tmG) (h : tmH) (i : Nat) : va_E :=
  if h.1.2.1 i = 13 then .inl (G.2.1, h.1.2.2.1 i, .inl (fun j => Int32.ofInt (h.2.1 i j)))
  else if h.1.2.1 i = 14 then .inl (G.2.2.1, h.1.2.2.1 i, .inr (.inl (h.2.2 i)))
  else if h.1.2.1 i = 15 then .inl (G.2.2.2.1, h.1.2.2.1 i, .inr (.inr (.inr (.inr (fun j => (h.1.2.2.2 i j).map (b0 + ·))))))
  else if h.1.2.1 i = 16 then .inl (G.2.2.2.2, h.1.2.2.1 i, .inr (.inr (.inr (.inr (fun j => (h.1.2.2.2 i j).map (b0 + ·))))))
  else .inr (h.1.2.1 i, tmfs b0 h i (tmft (h.1.2.1 i)) 0)
def tmw (b0 : Nat) (G : tmG) (h : tmH) : va_W := (List.range h.1.1).map fun i => (b0 + i, tmc b0 G h i)
def tmty (G : tmG) : List (ClassId × FieldType) := [(G.2.1, .int), (G.2.2.1, .long), (G.2.2.2.1, .object RX2), (G.2.2.2.2, .object RX6)]
abbrev inR (a : Int) : Prop := -2147483648 ≤ a ∧ a ≤ 2147483647
/-- all ints are told in their range -/
def tmIR (I : Nat → Nat → Int) : Prop := ∀ i k, inR (I i k)
def tmR (b0 : Nat) (G : tmG) (h : tmH) (H : Heap) : Prop := H.size = b0 + h.1.1 ∧ va_P G.1 vwCl (tmw b0 G h) H ∧ tmIR h.2.1
theorem tmIR.up {I : Nat → Nat → Int} (h : tmIR I) {i k : Nat} {x : Int} (hx : inR x) : tmIR (va_up I i (va_up (I i) k x)) := by
  intro a b
  unfold va_up
  split
  · show inR (if b = k then x else I i b)
    split
    · exact hx
    · exact h i b
  · exact h a b
theorem tmIR.row {I : Nat → Nat → Int} (h : tmIR I) {i : Nat} {f : Nat → Int} (hf : ∀ k, inR (f k)) : tmIR (va_up I i f) := by
  intro a b
  unfold va_up
  split
  · exact hf b
  · exact h a b
abbrev tmA (b0 : Nat) : Nat → Prop := fun q => b0 ≤ q
/-- what holds of the tables and of the constants, at every state -/
def tmE (b0 : Nat) (G : tmG) (U : State) : Prop :=
  va_K G.1 vwCl (tmty G) U ∧ va_AO RX2 U ∧ va_AO RX6 U ∧ va_Nw (.methodLinkNest RX6 11 yX8_init "TriggerMatches") U ∧ va_Nw (.methodLinkNest RX11 72 yX10_init "TriggerMatches") U ∧
  (∃ adK adV : Nat → Nat, vk_S 1 [7] [[97, 98, 99, 100, 102, 103, 104]] adK adV (tmA b0) U U.heap ∧ vk_R RX9 134 "abcdfgh" (adK 0) U ∧ vk_R RX10 42 "abcdfgh" (adK 0) U) ∧
  va_Z "java/lang/String" "COMPACT_STRINGS" "Z" (.int 1) (tmA b0) U U.heap ∧ va_Zq "jdk/internal/util/Preconditions" "SIOOBE_FORMATTER" "Ljava/util/function/BiFunction;" (tmA b0) U U.heap
theorem tmE.go {b0 : Nat} {G : tmG} {s U : State} {H : Heap} {locs : List Loc} (h : tmE b0 G s) (hW : s.WarmedH U.vm) (hU : U.heap = H) (hS : va_S (tmA b0) s.heap H locs) : tmE b0 G U := by
  obtain ⟨h1, h2, h3, h4, h5, ⟨adK, adV, h6, h7, h8⟩, h9, h10⟩ := h
  have hq : ∀ a : Nat, a < s.heap.size → ¬ tmA b0 a → U.heap[a]? = s.heap[a]? := fun a h1 h2 => by rw [hU]; exact hS.2.1 a h1 h2
  exact ⟨va_K.moved hW.alike h1, va_AO.moved hW.alike h2, va_AO.moved hW.alike h3, va_Nw.warmM hW h4, va_Nw.warmM hW h5, ⟨adK, adV, (vk_S.moved hW.alike h6).kept hq, vk_R.warm hW h7, vk_R.warm hW h8⟩, (va_Z.moved hW.alike h9).kept hq, (va_Zq.moved hW.alike h10).kept hq⟩
theorem tmE.blind {b0 : Nat} {G : tmG} {U : State} (g : JFrame) (mk : MethodId) (a : Array Value) (h : tmE b0 G U) : tmE b0 G (U.calling g mk a) := by
  obtain ⟨h1, h2, h3, h4, h5, ⟨adK, adV, h6, h7, h8⟩, h9, h10⟩ := h
  exact ⟨va_K.moved (u := U) (U := U.calling g mk a) (Vm.Alike.refl U.vm) h1, va_AO.moved (u := U) (U := U.calling g mk a) (Vm.Alike.refl U.vm) h2, va_AO.moved (u := U) (U := U.calling g mk a) (Vm.Alike.refl U.vm) h3, va_Nw.same (u := U) rfl rfl h4, va_Nw.same (u := U) rfl rfl h5, ⟨adK, adV, vk_S.moved (u := U) (U := U.calling g mk a) (Vm.Alike.refl U.vm) h6, vk_R.same (u := U) rfl h7, vk_R.same (u := U) rfl h8⟩, va_Z.moved (u := U) (U := U.calling g mk a) (Vm.Alike.refl U.vm) h9, va_Zq.moved (u := U) (U := U.calling g mk a) (Vm.Alike.refl U.vm) h10⟩
-- locals by their places
def tmGet : List (Option tmV) → Nat → Option tmV
  | [], _ => none
  | a :: _, 0 => a
  | _ :: l, k + 1 => tmGet l k
def tmIsL : Option tmV → Bool
  | some (.inr (.inl _)) => true
  | _ => false
def tmNx (v : tmV) (l : List (Option tmV)) : List (Option tmV) := match v, l with
  | .inr (.inl _), _ :: r => none :: r
  | _, r => r
def tmSet : List (Option tmV) → Nat → tmV → List (Option tmV)
  | [], _, _ => []
  | _ :: l, 0, v => some v :: tmNx v l
  | a :: l, k + 1, v => (if k = 0 && tmIsL a then none else a) :: tmSet l k v
def tmL (b0 : Nat) (lv : List (Option tmV)) (i : Nat) (v : Value) : Prop := ∃ a, tmGet lv i = some a ∧ tmt b0 a = v
/-- the locals hold what the list says -/
def tmHas (b0 : Nat) (ls : Array Slot) (nL : Nat) (lv : List (Option tmV)) : Prop := ls.size = nL ∧ lv_wf ls ∧ ∀ i v, tmL b0 lv i v → ls[i]? = some (.val v)
theorem tmHas.at {b0 : Nat} {ls : Array Slot} {nL : Nat} {lv : List (Option tmV)} (h : tmHas b0 ls nL lv) {k : Nat} {v : tmV} (hk : tmGet lv k = some v) : ls[k]? = some (.val (tmt b0 v)) := h.2.2 k _ ⟨v, hk, rfl⟩
def tmLs (b0 : Nat) : Nat → List (Option tmV) → List (Nat × Value)
  | _, [] => []
  | i, none :: r => tmLs b0 (i + 1) r
  | i, some v :: r => (i, tmt b0 v) :: tmLs b0 (i + 1) r
theorem tmLs_mem {b0 : Nat} (lv : List (Option tmV)) : ∀ (i : Nat) (q : Nat × Value), q ∈ tmLs b0 i lv ↔ ∃ k, q.1 = i + k ∧ tmL b0 lv k q.2 := by
  induction lv with
  | nil => intro i q; simp [tmLs, tmL, tmGet]
  | cons a r ih =>
    intro i q
    have ht : (∃ k, q.1 = i + 1 + k ∧ tmL b0 r k q.2) ↔ ∃ k, q.1 = i + (k + 1) ∧ tmL b0 (a :: r) (k + 1) q.2 := by
      constructor
      · rintro ⟨k, h1, h2⟩; exact ⟨k, by omega, h2⟩
      · rintro ⟨k, h1, h2⟩; exact ⟨k, by omega, h2⟩
    cases a with
    | none =>
      simp only [tmLs, ih, ht]
      constructor
      · rintro ⟨k, h⟩; exact ⟨k + 1, h⟩
      · rintro ⟨k, h1, h2⟩
        cases k with
        | zero => obtain ⟨a, h3, -⟩ := h2; cases h3
        | succ k => exact ⟨k, h1, h2⟩
    | some v =>
      simp only [tmLs, List.mem_cons, ih, ht]
      constructor
      · rintro (h | ⟨k, h⟩)
        · exact ⟨0, by rw [h]; rfl, v, rfl, by rw [h]⟩
        · exact ⟨k + 1, h⟩
      · rintro ⟨k, h1, h2⟩
        cases k with
        | zero =>
          obtain ⟨a, h3, h4⟩ := h2
          cases h3
          left
          exact Prod.ext h1 h4.symm
        | succ k => exact Or.inr ⟨k, h1, h2⟩
theorem tmHas.to {b0 : Nat} {ls : Array Slot} {nL : Nat} {lv : List (Option tmV)} (h : tmHas b0 ls nL lv) : lv_has ls nL (tmLs b0 0 lv) :=
  ⟨h.1, h.2.1, fun q hq => by obtain ⟨k, h1, h2⟩ := (tmLs_mem lv 0 q).mp hq; rw [h1, Nat.zero_add]; exact h.2.2 k q.2 h2⟩
theorem tmGet_len {lv : List (Option tmV)} : ∀ {k : Nat} {v : tmV}, tmGet lv k = some v → k < lv.length := by
  induction lv with
  | nil => intro k v h; cases h
  | cons a r ih =>
    intro k v h
    cases k with
    | zero => simp
    | succ k => have := ih h; simp; omega
theorem tmSet_get {lv : List (Option tmV)} : ∀ {i : Nat} {v w : tmV} {k : Nat}, tmGet (tmSet lv i v) k = some w → (k = i ∧ w = v) ∨ (k ≠ i ∧ tmGet lv k = some w ∧ (k = i + 1 → tmIsL (some v) = false) ∧ (k + 1 = i → tmIsL (some w) = false)) := by
  induction lv with
  | nil => intro i v w k h; cases h
  | cons a r ih =>
    intro i v w k h
    cases i with
    | zero =>
      cases k with
      | zero => simp only [tmSet, tmGet, Option.some.injEq] at h; exact Or.inl ⟨rfl, h.symm⟩
      | succ k =>
        refine Or.inr ⟨by omega, ?_, ?_, fun h => by omega⟩
        · simp only [tmSet, tmGet] at h ⊢
          rcases v with v | v | v <;> cases r <;> simp only [tmNx] at h <;> first | exact h | (cases k <;> simp [tmGet] at h ⊢; try exact h)
        · intro hk
          obtain rfl : k = 0 := by omega
          rcases v with v | v | v
          · rfl
          · exfalso; cases r <;> simp [tmSet, tmGet, tmNx] at h
          · rfl
    | succ i =>
      cases k with
      | zero =>
        simp only [tmSet, tmGet] at h
        refine Or.inr ⟨by omega, ?_, fun h => by omega, fun h1 => ?_⟩
        · split at h
          · cases h
          · exact h
        · obtain rfl : i = 0 := by omega
          split at h
          · cases h
          · rename_i hc
            subst h
            simpa using hc
      | succ k =>
        rcases ih h with ⟨h1, h2⟩ | ⟨h1, h2, h3, h4⟩
        · exact Or.inl ⟨by omega, h2⟩
        · exact Or.inr ⟨by omega, h2, fun h => h3 (by omega), fun h => h4 (by omega)⟩
theorem tmt_cat (b0 : Nat) (v : tmV) : (tmt b0 v).category = if tmIsL (some v) then 2 else 1 := by rcases v with v | v | v <;> rfl
/-- a store into the locals -/
theorem tmHas.key {b0 : Nat} {nL : Nat} {lv : List (Option tmV)} {i : Nat} {v : tmV} (f : Nat × Value → Bool) {ls' : Array Slot} (hf : ∀ q : Nat × Value, f q = true ∨ q.1 = i ∨ (q.1 = i + 1 ∧ tmIsL (some v) = true) ∨ (q.1 + 1 = i ∧ q.2.category = 2)) (hh : lv_has ls' nL ((i, tmt b0 v) :: (tmLs b0 0 lv).filter f)) : tmHas b0 ls' nL (tmSet lv i v) := by
  refine ⟨hh.1, hh.2.1, fun k w hk => ?_⟩
  obtain ⟨a, h1, rfl⟩ := hk
  rcases tmSet_get h1 with ⟨rfl, rfl⟩ | ⟨g1, g2, g3, g4⟩
  · exact hh.2.2 (k, _) List.mem_cons_self
  · refine hh.2.2 (k, _) (List.mem_cons_of_mem _ (List.mem_filter.mpr ⟨(tmLs_mem lv 0 _).mpr ⟨k, (Nat.zero_add k).symm, a, g2, rfl⟩, ?_⟩))
    rcases hf (k, tmt b0 a) with e | e | ⟨e1, e2⟩ | ⟨e1, e2⟩
    · exact e
    · exact absurd e g1
    · rw [g3 e1] at e2; cases e2
    · dsimp only at e2; rw [tmt_cat, g4 e1] at e2; simp at e2
theorem tmHas.of1 {b0 : Nat} {nL : Nat} {lv : List (Option tmV)} {i : Nat} {v : tmV} {ls' : Array Slot} (hh : lv_has ls' nL ((i, tmt b0 v) :: (tmLs b0 0 lv).filter (fun q => !(q.1 == i) && !(q.1 + 1 == i && q.2.category == 2)))) : tmHas b0 ls' nL (tmSet lv i v) := by
  refine tmHas.key _ (fun q => ?_) hh
  by_cases a1 : q.1 = i
  · exact Or.inr (Or.inl a1)
  · by_cases a3 : q.1 + 1 = i ∧ q.2.category = 2
    · exact Or.inr (Or.inr (Or.inr a3))
    · left
      by_cases a4 : q.1 + 1 = i
      · have : ¬ q.2.category = 2 := fun z => a3 ⟨a4, z⟩
        simp [a1, this]
      · simp [a1, a4]
theorem tmHas.of2 {b0 : Nat} {nL : Nat} {lv : List (Option tmV)} {i : Nat} {x : Int64} {ls' : Array Slot} (hh : lv_has ls' nL ((i, tmt b0 (tL x)) :: (tmLs b0 0 lv).filter (fun q => !(q.1 == i) && (!(q.1 == i + 1) && !(q.1 + 1 == i && q.2.category == 2))))) : tmHas b0 ls' nL (tmSet lv i (tL x)) := by
  refine tmHas.key _ (fun q => ?_) hh
  by_cases a1 : q.1 = i
  · exact Or.inr (Or.inl a1)
  · by_cases a2 : q.1 = i + 1
    · exact Or.inr (Or.inr (Or.inl ⟨a2, rfl⟩))
    · by_cases a3 : q.1 + 1 = i ∧ q.2.category = 2
      · exact Or.inr (Or.inr (Or.inr a3))
      · left
        by_cases a4 : q.1 + 1 = i
        · have : ¬ q.2.category = 2 := fun z => a3 ⟨a4, z⟩
          simp [a1, a2, this]
        · simp [a1, a2, a4]
/-- how a method's locals begin -/
def tmEnt : List tmV → List (Option tmV)
  | [] => []
  | .inr (.inl x) :: r => some (.inr (.inl x)) :: none :: tmEnt r
  | v :: r => some v :: tmEnt r
theorem tmEnt_args {b0 : Nat} (av : List tmV) : ∀ (i k : Nat) (v : Value), tmL b0 (tmEnt av) k v → (i + k, v) ∈ lv_args i (av.map (tmt b0)) := by
  induction av with
  | nil => rintro i k v ⟨a, h, -⟩; cases h
  | cons a r ih =>
    intro i k v hk
    obtain ⟨w, h1, h2⟩ := hk
    rcases a with a | a | a
    · cases k with
      | zero => cases h1; subst h2; exact List.mem_cons_self
      | succ k => exact List.mem_cons_of_mem _ (by have := ih (i + 1) k v ⟨w, h1, h2⟩; rw [show i + (k + 1) = i + 1 + k by omega]; exact this)
    · match k, h1 with
      | 0, h1 => cases h1; subst h2; exact List.mem_cons_self
      | 1, h1 => cases h1
      | k + 2, h1 => exact List.mem_cons_of_mem _ (by have := ih (i + 2) k v ⟨w, h1, h2⟩; rw [show i + (k + 2) = i + 2 + k by omega]; exact this)
    · cases k with
      | zero => cases h1; subst h2; exact List.mem_cons_self
      | succ k => exact List.mem_cons_of_mem _ (by have := ih (i + 1) k v ⟨w, h1, h2⟩; rw [show i + (k + 1) = i + 1 + k by omega]; exact this)
theorem tmGet_app {lv : List (Option tmV)} : ∀ {r : List (Option tmV)} {k : Nat} {v : tmV}, (∀ x ∈ r, x = none) → tmGet (lv ++ r) k = some v → tmGet lv k = some v := by
  induction lv with
  | nil =>
    intro r k v hr h
    exfalso
    induction r generalizing k with
    | nil => cases h
    | cons a r ih =>
      cases k with
      | zero => have := hr a List.mem_cons_self; subst this; cases h
      | succ k => exact ih (fun x hx => hr x (List.mem_cons_of_mem _ hx)) h
  | cons a l ih =>
    intro r k v hr h
    cases k with
    | zero => exact h
    | succ k => exact ih hr h
