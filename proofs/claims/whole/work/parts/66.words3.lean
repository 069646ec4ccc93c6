/-! ===== 66: TERMS built by a word (no machine) ===== -/
theorem tmCnt_app (P : Nat → Prop) [DecidablePred P] : ∀ k1 k2 t, tmCnt P (k1 + k2) t = tmCnt P k1 t + tmCnt P k2 (t + k1) := by
  intro k1
  induction k1 with
  | zero => intro k2 t; simp [tmCnt]
  | succ k ih =>
    intro k2 t
    rw [show k + 1 + k2 = (k + k2) + 1 by omega]
    simp only [tmCnt]
    rw [ih k2 (t + 1), show t + 1 + k = t + (k + 1) by omega]
    omega
/-- nodes and signs are counted alike -/
theorem pf_cnt {fr m : Nat} {sg on ot : Nat → Int} (hw : PW fr m on ot) (hp : POs fr m sg on ot) (P : Int → Bool) : ∀ i : Nat, fr ≤ i → i < m → tmCnt (fun j => P (sg j) = true) (pf sg on ot i).length (i + 1 - (pf sg on ot i).length) = (pf sg on ot i).countP P := by
  intro i
  induction i using Nat.strongRecOn with
  | ind i ih =>
    intro h1 h2
    obtain ⟨p1, p2, p3, p4, p5, p6⟩ := hp i h1 h2
    obtain ⟨g1, g2, g3, g4⟩ := hw i h1 h2
    have e := pf_eq (sg := sg) hw h1 h2
    have last : ∀ c : Nat, (if P (sg i) = true then 1 else 0) + c = c + tmCnt (fun j => P (sg j) = true) 1 i := fun c => by simp only [tmCnt]; omega
    by_cases c0 : sg i < 4 ∨ 7 ≤ sg i
    · obtain ⟨a, b⟩ := p4 c0
      rw [a, b, pf_neg (x := -1) (by decide)] at e
      rw [e]
      simp only [List.append_nil, List.length_cons, List.length_nil, List.countP_cons, List.countP_nil, tmCnt]
      rw [show i + 1 - (0 + 1) = i by omega]
      omega
    · by_cases c6 : sg i = 6
      · obtain ⟨a0, a, b⟩ := p3 c6
        have q1 : on i = ((on i).toNat : Int) := by omega
        have q2 : ot i = ((ot i).toNat : Int) := by omega
        have i1 := ih (on i).toNat (by omega) (by omega) (by omega)
        have i2 := ih (ot i).toNat (by omega) (by omega) (by omega)
        rw [← q1] at i1
        rw [← q2] at i2
        have o1 := hp (on i).toNat (by omega) (by omega)
        have o2 := hp (ot i).toNat (by omega) (by omega)
        rw [← q1] at o1
        rw [← q2] at o2
        rw [e]
        simp only [List.length_cons, List.length_append, List.countP_cons, List.countP_append]
        rw [e] at p1
        simp only [List.length_cons, List.length_append] at p1
        rw [← i1, ← i2]
        generalize (pf sg on ot (on i)).length = l1 at *
        generalize (pf sg on ot (ot i)).length = l2 at *
        rw [tmCnt_app, tmCnt_app, show i + 1 - (l1 + l2 + 1) + (l1 + l2) = i by omega, show i + 1 - (l1 + l2 + 1) = (on i).toNat + 1 - l1 by omega, show (on i).toNat + 1 - l1 + l1 = (ot i).toNat + 1 - l2 by omega]
        have := last 0
        omega
      · obtain ⟨a0, a, b⟩ := p2 (by omega) (by omega)
        rw [b, pf_neg (x := -1) (by decide), List.append_nil] at e
        have q1 : on i = ((on i).toNat : Int) := by omega
        have i1 := ih (on i).toNat (by omega) (by omega) (by omega)
        rw [← q1] at i1
        rw [e]
        simp only [List.length_cons, List.countP_cons]
        rw [e] at p1
        simp only [List.length_cons] at p1
        rw [← i1]
        generalize (pf sg on ot (on i)).length = l1 at *
        rw [tmCnt_app, show i + 1 - (l1 + 1) + l1 = i by omega, show i + 1 - (l1 + 1) = (on i).toNat + 1 - l1 by omega]
        have := last 0
        omega
theorem tmCnt_pos {P : Nat → Prop} [DecidablePred P] : ∀ k t, 0 < tmCnt P k t ↔ ∃ j, t ≤ j ∧ j < t + k ∧ P j := by
  intro k
  induction k with
  | zero => intro t; simp only [tmCnt]; exact ⟨fun h => by omega, fun ⟨j, a, b, _⟩ => by omega⟩
  | succ k ih =>
    intro t
    simp only [tmCnt]
    by_cases c : P t
    · rw [if_pos c]; exact ⟨fun _ => ⟨t, by omega, by omega, c⟩, fun _ => by omega⟩
    · rw [if_neg c, Nat.zero_add, ih (t + 1)]
      constructor
      · rintro ⟨j, a, b, d⟩; exact ⟨j, by omega, by omega, d⟩
      · rintro ⟨j, a, b, d⟩
        refine ⟨j, ?_, by omega, d⟩
        by_cases z : j = t
        · subst z; exact absurd d c
        · omega
/-- a sign is in the word where a node has it -/
theorem pf_mem {fr m : Nat} {sg on ot : Nat → Int} (hw : PW fr m on ot) (hp : POs fr m sg on ot) {i : Nat} (h1 : fr ≤ i) (h2 : i < m) (s : Int) : s ∈ pf sg on ot i ↔ ∃ j, i + 1 - (pf sg on ot i).length ≤ j ∧ j ≤ i ∧ sg j = s := by
  have hc := pf_cnt hw hp (fun x => decide (x = s)) i h1 h2
  have hl := (hp i h1 h2).1
  have a : s ∈ pf sg on ot i ↔ 0 < (pf sg on ot i).countP (fun x => decide (x = s)) := by
    rw [List.countP_pos_iff]
    constructor
    · intro h; exact ⟨s, h, by simp⟩
    · rintro ⟨x, h, e⟩; simp only [decide_eq_true_eq] at e; rw [← e]; exact h
  rw [a, ← hc, tmCnt_pos]
  constructor
  · rintro ⟨j, x, y, z⟩; exact ⟨j, x, by omega, by simpa using z⟩
  · rintro ⟨j, x, y, z⟩; exact ⟨j, x, by omega, by simpa using z⟩
/-- the LETTERS of a word -/
def letW (w : List Int) : Nat := w.foldl (fun (m : Nat) (s : Int) => if 7 ≤ s then m ||| 1 <<< (s - 7).toNat else m) 0
theorem letW_fold {l : Nat} (hl : l < 3) : ∀ (w : List Int) (m : Nat), (∀ s ∈ w, s ≤ 9) → ((w.foldl (fun (m : Nat) (s : Int) => if 7 ≤ s then m ||| 1 <<< (s - 7).toNat else m) m).testBit l = true ↔ m.testBit l = true ∨ (7 + (l : Int)) ∈ w) := by
  intro w
  induction w with
  | nil => intro m _; simp
  | cons s w ih =>
    intro m h9
    have h9s := h9 s List.mem_cons_self
    rw [List.foldl_cons, ih _ (fun x hx => h9 x (List.mem_cons_of_mem _ hx)), List.mem_cons]
    by_cases h7 : 7 ≤ s
    · rw [if_pos h7, Nat.testBit_or, Bool.or_eq_true]
      have e : (1 <<< (s - 7).toNat).testBit l = true ↔ 7 + (l : Int) = s := by
        rw [Nat.one_shiftLeft, Nat.testBit_two_pow]
        simp only [decide_eq_true_eq]
        omega
      rw [e, or_assoc]
    · rw [if_neg h7]
      constructor
      · rintro (a | a)
        · exact Or.inl a
        · exact Or.inr (Or.inr a)
      · rintro (a | a | a)
        · exact Or.inl a
        · omega
        · exact Or.inr a
theorem letW_lt (w : List Int) (h : ∀ s ∈ w, s ≤ 9) : letW w < 8 := by
  unfold letW
  have : ∀ (w : List Int) (m : Nat), (∀ s ∈ w, s ≤ 9) → m < 8 → w.foldl (fun (m : Nat) (s : Int) => if 7 ≤ s then m ||| 1 <<< (s - 7).toNat else m) m < 8 := by
    intro w
    induction w with
    | nil => intro m _ hm; exact hm
    | cons s w ih =>
      intro m h9 hm
      have h9s := h9 s List.mem_cons_self
      rw [List.foldl_cons]
      refine ih _ (fun x hx => h9 x (List.mem_cons_of_mem _ hx)) ?_
      split
      · next h7 => exact (tm_or8 m hm (s - 7).toNat (by omega)).2
      · exact hm
  exact this w 0 h (by decide)
theorem nat8_ext : ∀ a, a < 8 → ∀ b, b < 8 → (∀ l, l < 3 → a.testBit l = b.testBit l) → a = b := by decide
theorem letW_bit {w : List Int} {l : Nat} (hl : l < 3) (h9 : ∀ s ∈ w, s ≤ 9) : (letW w).testBit l = true ↔ (7 + (l : Int)) ∈ w := by
  have := letW_fold hl w 0 h9
  unfold letW
  simpa using this
/-- the LETTERS of nodes are those of their word -/
theorem letW_pf {fr m : Nat} {sg on ot : Nat → Int} (hw : PW fr m on ot) (hp : POs fr m sg on ot) {i : Nat} (h1 : fr ≤ i) (h2 : i < m) : tmLet sg (pf sg on ot i).length (i + 1 - (pf sg on ot i).length) 0 = letW (pf sg on ot i) := by
  have hl := (hp i h1 h2).1
  have h9 : ∀ s ∈ pf sg on ot i, s ≤ 9 := fun s hs => by
    obtain ⟨j, a, b, c⟩ := (pf_mem hw hp h1 h2 s).mp hs
    rw [← c]
    exact (hp j (by omega) (by omega)).2.2.2.2.2
  have h9' : ∀ j, i + 1 - (pf sg on ot i).length ≤ j → j < i + 1 - (pf sg on ot i).length + (pf sg on ot i).length → sg j ≤ 9 := fun j a b => (hp j (by omega) (by omega)).2.2.2.2.2
  refine nat8_ext _ (tmLet_lt _ _ 0 h9' (by decide)) _ (letW_lt _ h9) (fun l hl3 => ?_)
  rw [Bool.eq_iff_iff, tmLet_bit hl3 _ _ _ h9', letW_bit hl3 h9, pf_mem hw hp h1 h2]
  simp only [Nat.zero_testBit, Bool.false_eq_true, false_or]
  constructor
  · rintro ⟨j, a, b, c⟩; exact ⟨j, a, by omega, c⟩
  · rintro ⟨j, a, b, c⟩; exact ⟨j, a, by omega, c⟩
/-- some of made, in their order -/
def mdL (md : Nat → Int) : Nat → Nat → List Int
  | 0, _ => []
  | k + 1, i => md i :: mdL md k (i + 1)
theorem mdL_app (md : Nat → Int) : ∀ k1 k2 i, mdL md (k1 + k2) i = mdL md k1 i ++ mdL md k2 (i + k1) := by
  intro k1
  induction k1 with
  | zero => intro k2 i; simp [mdL]
  | succ k ih =>
    intro k2 i
    rw [show k + 1 + k2 = (k + k2) + 1 by omega]
    simp only [mdL]
    rw [ih k2 (i + 1), show i + 1 + k = i + (k + 1) by omega]
    rfl
theorem mdL_cg {md md' : Nat → Int} : ∀ k i, (∀ j, i ≤ j → j < i + k → md' j = md j) → mdL md' k i = mdL md k i := by
  intro k
  induction k with
  | zero => intro i _; rfl
  | succ k ih => intro i h; simp only [mdL]; rw [h i (by omega) (by omega), ih (i + 1) (fun j a b => h j (by omega) (by omega))]
theorem bdF_app {psg pon pot lt : Nat → Int} {g : Int} : ∀ (k1 k2 i : Nat) (X : TS) (md : Nat → Int), bdF psg pon pot lt g (k1 + k2) i X md = (bdF psg pon pot lt g k1 i X md).bind (fun q => bdF psg pon pot lt g k2 (i + k1) q.1 q.2) := by
  intro k1
  induction k1 with
  | zero => intro k2 i X md; simp [bdF]
  | succ k ih =>
    intro k2 i X md
    rw [show k + 1 + k2 = (k + k2) + 1 by omega]
    simp only [bdF]
    split
    · rw [ih k2 (i + 1), show i + 1 + k = i + (k + 1) by omega]
    · cases tsCome X (psg i) (svOf md 120 (-1) (pon i)) (svOf md 120 (-1) (pot i)) g with
      | none => rfl
      | some tX => simp only []; rw [ih k2 (i + 1), show i + 1 + k = i + (k + 1) by omega]
theorem bdF_md {psg pon pot lt : Nat → Int} {g : Int} : ∀ (k i : Nat) (X : TS) (md : Nat → Int) (X' : TS) (md' : Nat → Int), bdF psg pon pot lt g k i X md = some (X', md') → (∀ j, i ≤ j → j < i + k → 7 ≤ psg j → 0 ≤ lt (psg j - 7).toNat) → (∀ j, (j < i ∨ i + k ≤ j) → md' j = md j) ∧ ∀ j, i ≤ j → j < i + k → 0 ≤ md' j := by
  intro k
  induction k with
  | zero =>
    intro i X md X' md' h _
    simp only [bdF, Option.some.injEq, Prod.mk.injEq] at h
    obtain ⟨rfl, rfl⟩ := h
    exact ⟨fun _ _ => rfl, fun j a b => by omega⟩
  | succ k ih =>
    intro i X md X' md' h hl
    simp only [bdF] at h
    split at h
    · next h7 =>
      obtain ⟨a, b⟩ := ih (i + 1) X _ X' md' h (fun j j1 j2 => hl j (by omega) (by omega))
      refine ⟨fun j hj => by rw [a j (by omega), vup_n (by omega)], fun j j1 j2 => ?_⟩
      by_cases e : j = i
      · subst e; rw [a j (by omega), vup_s]; exact hl j (by omega) (by omega) h7
      · exact b j (by omega) (by omega)
    · next h7 =>
      cases hc : tsCome X (psg i) (svOf md 120 (-1) (pon i)) (svOf md 120 (-1) (pot i)) g with
      | none => rw [hc] at h; cases h
      | some tX =>
        obtain ⟨t, X1⟩ := tX
        rw [hc] at h
        obtain ⟨a, b⟩ := ih (i + 1) X1 _ X' md' h (fun j j1 j2 => hl j (by omega) (by omega))
        refine ⟨fun j hj => by rw [a j (by omega), vup_n (by omega)], fun j j1 j2 => ?_⟩
        by_cases e : j = i
        · subst e; rw [a j (by omega), vup_s]; exact (tsCome_in hc).2.2.1
        · exact b j (by omega) (by omega)
/-- what waits for a part: its sign, its first part or -1; the last one first -/
abbrev WSt : Type := List (Int × Int)
def wtW (g : Int) : WSt → Int → TS → List Int → Option (WSt × TS × List Int)
  | [], _, X, ms => some ([], X, ms)
  | q :: r, t, X, ms => if q.1 = 6 ∧ q.2 < 0 then some ((q.1, t) :: r, X, ms) else
    (tsCome X q.1 (if q.1 = 6 then q.2 else t) (if q.1 = 6 then t else -1) g).bind (fun o => wtW g r o.1 o.2 (ms ++ [o.1]))
/-- the TERMS of a word come -/
def bW (lt : Nat → Int) (g : Int) : List Int → WSt → TS → List Int → Option (TS × List Int)
  | [], _, X, ms => some (X, ms)
  | s :: w, st, X, ms => if 4 ≤ s ∧ s ≤ 6 then bW lt g w ((s, -1) :: st) X ms else
    (if 7 ≤ s then some (lt (s - 7).toNat, X) else tsCome X s (-1) (-1) g).bind (fun o => (wtW g st o.1 o.2 (ms ++ [o.1])).bind (fun q => bW lt g w q.1 q.2.1 q.2.2))
theorem svOf_in {v : Nat → Int} {m : Nat} {d : Int} {x : Nat} (h : x < m) : svOf v m d x = v x := by unfold svOf; rw [if_pos ⟨by omega, by omega⟩]; congr 1
theorem svOf_neg {v : Nat → Int} {m : Nat} {d x : Int} (h : x < 0) : svOf v m d x = d := by unfold svOf; rw [if_neg (by omega)]
theorem bW_node {fr m : Nat} {sg on ot lt : Nat → Int} {g : Int} (hw : PW fr m on ot) (hp : POs fr m sg on ot) (hm : m ≤ 120) : ∀ i : Nat, fr ≤ i → i < m → (∀ j, fr ≤ j → j ≤ i → 7 ≤ sg j → 0 ≤ lt (sg j - 7).toNat) → ∀ (X : TS) (md : Nat → Int) (st : WSt) (w ms : List Int),
    bW lt g (pf sg on ot i ++ w) st X ms = (bdF sg on ot lt g (pf sg on ot i).length (i + 1 - (pf sg on ot i).length) X md).bind (fun q => (wtW g st (q.2 i) q.1 (ms ++ mdL q.2 (pf sg on ot i).length (i + 1 - (pf sg on ot i).length))).bind (fun o => bW lt g w o.1 o.2.1 o.2.2)) := by
  intro i
  induction i using Nat.strongRecOn with
  | ind i ih =>
    intro h1 h2 hlt X md st w ms
    obtain ⟨p1, p2, p3, p4, p5, p6⟩ := hp i h1 h2
    obtain ⟨g1, g2, g3, g4⟩ := hw i h1 h2
    have e := pf_eq (sg := sg) hw h1 h2
    by_cases c0 : sg i < 4 ∨ 7 ≤ sg i
    · obtain ⟨a, b⟩ := p4 c0
      rw [a, b, pf_neg (x := -1) (by decide)] at e
      rw [e]
      simp only [List.append_nil, List.length_cons, List.length_nil, List.cons_append, List.nil_append]
      rw [show i + 1 - (0 + 1) = i by omega]
      simp only [bW, bdF]
      rw [if_neg (by omega), a, b, svOf_neg (by decide)]
      by_cases c7 : 7 ≤ sg i
      · rw [if_pos c7, if_pos c7]
        simp only [Option.bind_some, mdL, vup_s]
      · rw [if_neg c7, if_neg c7]
        cases tsCome X (sg i) (-1) (-1) g with
        | none => rfl
        | some o => simp only [Option.bind_some, mdL, vup_s]
    · by_cases c6 : sg i = 6
      · obtain ⟨a0, a, b⟩ := p3 c6
        have q1 : on i = ((on i).toNat : Int) := by omega
        have q2 : ot i = ((ot i).toNat : Int) := by omega
        have o1 := hp (on i).toNat (by omega) (by omega)
        have o2 := hp (ot i).toNat (by omega) (by omega)
        have i1 := ih (on i).toNat (by omega) (by omega) (by omega) (fun j j1 j2 => hlt j j1 (by omega)) X md ((sg i, -1) :: st) (pf sg on ot (ot i) ++ w) ms
        rw [← q1] at o1 i1
        rw [← q2] at o2
        rw [e] at p1
        simp only [List.length_cons, List.length_append] at p1
        rw [e]
        simp only [List.length_cons, List.length_append, List.cons_append, List.append_assoc]
        simp only [bW]
        rw [if_pos (by omega), i1, bdF_app, bdF_app]
        have lp1 : 1 ≤ (pf sg on ot (on i)).length := by rw [q1, pf_eq hw (by omega) (by omega)]; simp
        generalize hl1 : (pf sg on ot (on i)).length = l1 at *
        generalize hl2 : (pf sg on ot (ot i)).length = l2 at *
        rw [show i + 1 - (l1 + l2 + 1) + (l1 + l2) = i by omega, show i + 1 - (l1 + l2 + 1) = (on i).toNat + 1 - l1 by omega, show (on i).toNat + 1 - l1 + l1 = (ot i).toNat + 1 - l2 by omega]
        cases hb1 : bdF sg on ot lt g l1 ((on i).toNat + 1 - l1) X md with
        | none => rfl
        | some q =>
          obtain ⟨X1, md1⟩ := q
          obtain ⟨m1, m2⟩ := bdF_md _ _ _ _ _ _ hb1 (fun j j1 j2 => hlt j (by omega) (by omega))
          simp only [Option.bind_some, wtW]
          rw [if_pos ⟨c6, by decide⟩]
          simp only [Option.bind_some]
          have i2 := ih (ot i).toNat (by omega) (by omega) (by omega) (fun j j1 j2 => hlt j j1 (by omega)) X1 md1 ((sg i, md1 (on i).toNat) :: st) w (ms ++ mdL md1 l1 ((on i).toNat + 1 - l1))
          rw [← q2, hl2] at i2
          rw [i2]
          cases hb2 : bdF sg on ot lt g l2 ((ot i).toNat + 1 - l2) X1 md1 with
          | none => rfl
          | some q =>
            obtain ⟨X2, md2⟩ := q
            obtain ⟨n1, n2⟩ := bdF_md _ _ _ _ _ _ hb2 (fun j j1 j2 => hlt j (by omega) (by omega))
            have hon : 0 ≤ md1 (on i).toNat := m2 _ (by omega) (by omega)
            simp only [Option.bind_some, wtW]
            rw [if_neg (by omega), if_pos c6, if_pos c6]
            simp only [bdF]
            rw [if_neg (by omega), q1, q2, svOf_in (by omega), svOf_in (by omega)]
            simp only [Int.toNat_natCast]
            rw [n1 (on i).toNat (by omega)]
            cases tsCome X2 (sg i) (md1 (on i).toNat) (md2 (ot i).toNat) g with
            | none => rfl
            | some o =>
              simp only [Option.bind_some, vup_s]
              congr 2
              rw [mdL_app, mdL_app, show (on i).toNat + 1 - l1 + (l1 + l2) = i by omega, show (on i).toNat + 1 - l1 + l1 = (ot i).toNat + 1 - l2 by omega]
              simp only [mdL, vup_s]
              rw [mdL_cg (md := md1) (md' := va_up md2 i o.1) l1 _ (fun j j1 j2 => by rw [vup_n (by omega)]; exact n1 j (by omega)), mdL_cg (md := md2) (md' := va_up md2 i o.1) l2 _ (fun j j1 j2 => vup_n (by omega))]
              simp
      · obtain ⟨a0, a, b⟩ := p2 (by omega) (by omega)
        rw [b, pf_neg (x := -1) (by decide), List.append_nil] at e
        have q1 : on i = ((on i).toNat : Int) := by omega
        have i1 := ih (on i).toNat (by omega) (by omega) (by omega) (fun j j1 j2 => hlt j j1 (by omega)) X md ((sg i, -1) :: st) w ms
        rw [← q1] at i1
        rw [e] at p1
        simp only [List.length_cons] at p1
        rw [e]
        simp only [List.length_cons, List.cons_append]
        simp only [bW]
        rw [if_pos (by omega), i1, bdF_app]
        generalize hl1 : (pf sg on ot (on i)).length = l1 at *
        rw [show i + 1 - (l1 + 1) + l1 = i by omega, show i + 1 - (l1 + 1) = (on i).toNat + 1 - l1 by omega]
        cases hb1 : bdF sg on ot lt g l1 ((on i).toNat + 1 - l1) X md with
        | none => rfl
        | some q =>
          obtain ⟨X1, md1⟩ := q
          simp only [Option.bind_some, wtW]
          rw [if_neg (by omega), if_neg c6, if_neg c6]
          simp only [bdF]
          rw [if_neg (by omega), q1, b, svOf_in (by omega), svOf_neg (by decide)]
          simp only [Int.toNat_natCast]
          cases tsCome X1 (sg i) (md1 (on i).toNat) (-1) g with
          | none => rfl
          | some o =>
            simp only [Option.bind_some, vup_s]
            congr 2
            rw [mdL_app, show (on i).toNat + 1 - l1 + l1 = i by omega]
            simp only [mdL, vup_s]
            rw [mdL_cg (md := md1) (md' := va_up md1 i o.1) l1 _ (fun j j1 j2 => vup_n (by omega))]
            simp
