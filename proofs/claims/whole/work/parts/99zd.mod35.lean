/-! ===== 99zd: TERMS told in a text: the reference's young build, closed after each (no machine) ===== -/
set_option maxRecDepth 20000 in
theorem vup_comm (g : Nat → Int) (i j : Nat) : va_up (va_up g i 0) j 0 = va_up (va_up g j 0) i 0 := by
  funext k
  by_cases a : k = i
  · by_cases b : k = j
    · subst a; subst b; rfl
    · subst a; rw [vup_n b, vup_s, vup_s]
  · by_cases b : k = j
    · subst b; rw [vup_s, vup_n a, vup_s]
    · rw [vup_n b, vup_n a, vup_n a, vup_n b]
set_option maxRecDepth 20000 in
theorem gzL_up : ∀ (ms : List Int) (g : Nat → Int) (i : Nat), gzL ms (va_up g i 0) = va_up (gzL ms g) i 0 := by
  intro ms
  induction ms with
  | nil => intro g i; rfl
  | cons t ms ih =>
    intro g i
    show gzL ms (va_up (va_up g i 0) t.toNat 0) = va_up (gzL ms (va_up g t.toNat 0)) i 0
    rw [vup_comm, ih]
/-- GENERATION 0 for what was made -/
def yX (ms : List Int) (X : TS) : TS := (X.1, X.2.1, X.2.2.1, X.2.2.2.1, gzL ms X.2.2.2.2.1, X.2.2.2.2.2)
set_option maxRecDepth 20000 in
theorem come_y (ms : List Int) (X : TS) (s a b : Int) : tsCome (yX ms X) s a b 0 = (tsCome X s a b 0).map (fun o => (o.1, yX ms o.2)) := by
  have el : tsLk (yX ms X) s a b = tsLk X s a b := rfl
  unfold tsCome
  rw [el]
  by_cases c : tsLk X s a b = -1
  · rw [if_pos c, if_pos c]
    by_cases c5 : X.1 < 50
    · have c5' : (yX ms X).1 < 50 := c5
      rw [if_pos c5, if_pos c5', Option.map_some]
      have : tsAdd (yX ms X) s a b 0 = yX ms (tsAdd X s a b 0) := by
        unfold tsAdd yX
        rw [gzL_up]
      rw [this]
      rfl
    · have c5' : ¬ (yX ms X).1 < 50 := c5
      rw [if_neg c5, if_neg c5']; rfl
  · rw [if_neg c, if_neg c]; rfl
set_option maxRecDepth 20000 in
theorem md_y (ms : List Int) (X : TS) (t : Int) : mdY true (yX ms X) t = yX (ms ++ [t]) X := by
  unfold mdY
  rw [if_pos rfl]
  unfold g0X yX
  rw [gzL_app]
  rfl
set_option maxRecDepth 20000 in
theorem wtT_young : ∀ (st : WSt) (t : Int) (X : TS) (ms : List Int), (t = lastZ ms) → match wtW 0 st t X ms with
    | none => (wtT true 0 st t (yX ms X) false).2.2.2 = true
    | some o => (wtT true 0 st t (yX ms X) false).1 = o.1 ∧ (wtT true 0 st t (yX ms X) false).2.2.1 = yX o.2.2 o.2.1 ∧ (wtT true 0 st t (yX ms X) false).2.2.2 = false ∧ (o.1 = [] → (wtT true 0 st t (yX ms X) false).2.1 = lastZ o.2.2) := by
  intro st
  induction st with
  | nil => intro t X ms h; exact ⟨rfl, rfl, rfl, fun _ => h⟩
  | cons q r ih =>
    intro t X ms h
    simp only [wtW, wtT]
    by_cases c : q.1 = 6 ∧ q.2 < 0
    · rw [if_pos c, if_pos c]; exact ⟨rfl, rfl, rfl, fun z => by cases z⟩
    · rw [if_neg c, if_neg c]
      unfold comeT
      rw [come_y]
      cases hc : tsCome X q.1 (if q.1 = 6 then q.2 else t) (if q.1 = 6 then t else -1) 0 with
      | none =>
        simp only [Option.map_none, Option.bind_none, Bool.or_true]
        exact wtT_ov _ _ _
      | some o =>
        simp only [Option.map_some, Option.bind_some, Bool.or_false]
        rw [md_y]
        exact ih o.1 o.2 (ms ++ [o.1]) (by unfold lastZ; simp)
set_option maxRecDepth 20000 in
theorem bT_young {lt : Nat → Int} : ∀ (w : List Int) (st : WSt) (t : Int) (X : TS) (ms : List Int), (w = [] → st = [] → t = lastZ ms) → match bW lt 0 w st X ms with
    | none => (bT true lt 0 w st t (yX ms X) false).2.2.2 = true
    | some o => (bT true lt 0 w st t (yX ms X) false).2.2.1 = yX o.2 o.1 ∧ (bT true lt 0 w st t (yX ms X) false).2.2.2 = false ∧ ((bT true lt 0 w st t (yX ms X) false).1 = [] → (bT true lt 0 w st t (yX ms X) false).2.1 = lastZ o.2) := by
  intro w
  induction w with
  | nil => intro st t X ms h; exact ⟨rfl, rfl, h rfl⟩
  | cons s w ih =>
    intro st t X ms h
    simp only [bW, bT]
    by_cases c : 4 ≤ s ∧ s ≤ 6
    · rw [if_pos c, if_pos c]
      exact ih _ _ _ _ (fun _ z => by cases z)
    · rw [if_neg c, if_neg c]
      have key : ∀ (o : Int × TS), match (wtW 0 st o.1 o.2 (ms ++ [o.1])).bind (fun q => bW lt 0 w q.1 q.2.1 q.2.2) with
          | none => (bT true lt 0 w (wtT true 0 st o.1 (yX (ms ++ [o.1]) o.2) false).1 (wtT true 0 st o.1 (yX (ms ++ [o.1]) o.2) false).2.1 (wtT true 0 st o.1 (yX (ms ++ [o.1]) o.2) false).2.2.1 (wtT true 0 st o.1 (yX (ms ++ [o.1]) o.2) false).2.2.2).2.2.2 = true
          | some o' => (bT true lt 0 w (wtT true 0 st o.1 (yX (ms ++ [o.1]) o.2) false).1 (wtT true 0 st o.1 (yX (ms ++ [o.1]) o.2) false).2.1 (wtT true 0 st o.1 (yX (ms ++ [o.1]) o.2) false).2.2.1 (wtT true 0 st o.1 (yX (ms ++ [o.1]) o.2) false).2.2.2).2.2.1 = yX o'.2 o'.1 ∧ (bT true lt 0 w (wtT true 0 st o.1 (yX (ms ++ [o.1]) o.2) false).1 (wtT true 0 st o.1 (yX (ms ++ [o.1]) o.2) false).2.1 (wtT true 0 st o.1 (yX (ms ++ [o.1]) o.2) false).2.2.1 (wtT true 0 st o.1 (yX (ms ++ [o.1]) o.2) false).2.2.2).2.2.2 = false ∧ ((bT true lt 0 w (wtT true 0 st o.1 (yX (ms ++ [o.1]) o.2) false).1 (wtT true 0 st o.1 (yX (ms ++ [o.1]) o.2) false).2.1 (wtT true 0 st o.1 (yX (ms ++ [o.1]) o.2) false).2.2.1 (wtT true 0 st o.1 (yX (ms ++ [o.1]) o.2) false).2.2.2).1 = [] → (bT true lt 0 w (wtT true 0 st o.1 (yX (ms ++ [o.1]) o.2) false).1 (wtT true 0 st o.1 (yX (ms ++ [o.1]) o.2) false).2.1 (wtT true 0 st o.1 (yX (ms ++ [o.1]) o.2) false).2.2.1 (wtT true 0 st o.1 (yX (ms ++ [o.1]) o.2) false).2.2.2).2.1 = lastZ o'.2) := fun o => by
        have hw := wtT_young st o.1 o.2 (ms ++ [o.1]) (by unfold lastZ; simp)
        cases hc : wtW 0 st o.1 o.2 (ms ++ [o.1]) with
        | none =>
          rw [hc] at hw
          simp only [Option.bind_none]
          rw [hw]
          exact bT_ov _ _ _ _
        | some z =>
          rw [hc] at hw
          obtain ⟨h1, h2, h3, h4⟩ := hw
          simp only [Option.bind_some]
          rw [h3, h2, ← h1]
          exact ih _ _ _ _ (fun _ e => h4 (by rw [← h1]; exact e))
      by_cases c7 : 7 ≤ s
      · rw [if_pos c7, if_pos c7]
        simp only [Option.bind_some, Bool.or_false]
        rw [md_y]
        exact key (lt (s - 7).toNat, X)
      · rw [if_neg c7, if_neg c7]
        unfold comeT
        rw [come_y]
        cases hc : tsCome X s (-1) (-1) 0 with
        | none =>
          simp only [Option.map_none, Option.bind_none, Bool.or_true, wtT_ov]
          exact bT_ov _ _ _ _
        | some o =>
          simp only [Option.map_some, Option.bind_some, Bool.or_false]
          rw [md_y]
          exact key o
set_option maxRecDepth 20000 in
theorem wtW_acc {g : Int} (m0 : List Int) : ∀ (st : WSt) (t : Int) (X : TS) (ms : List Int), wtW g st t X (m0 ++ ms) = (wtW g st t X ms).map (fun o => (o.1, o.2.1, m0 ++ o.2.2)) := by
  intro st
  induction st with
  | nil => intro t X ms; rfl
  | cons q r ih =>
    intro t X ms
    simp only [wtW]
    by_cases c : q.1 = 6 ∧ q.2 < 0
    · rw [if_pos c, if_pos c]; rfl
    · rw [if_neg c, if_neg c]
      cases tsCome X q.1 (if q.1 = 6 then q.2 else t) (if q.1 = 6 then t else -1) g with
      | none => rfl
      | some o =>
        simp only [Option.bind_some]
        rw [List.append_assoc]
        exact ih _ _ _
set_option maxRecDepth 20000 in
theorem bW_acc {lt : Nat → Int} {g : Int} (m0 : List Int) : ∀ (w : List Int) (st : WSt) (X : TS) (ms : List Int), bW lt g w st X (m0 ++ ms) = (bW lt g w st X ms).map (fun o => (o.1, m0 ++ o.2)) := by
  intro w
  induction w with
  | nil => intro st X ms; rfl
  | cons s w ih =>
    intro st X ms
    simp only [bW]
    by_cases c : 4 ≤ s ∧ s ≤ 6
    · rw [if_pos c, if_pos c]; exact ih _ _ _
    · rw [if_neg c, if_neg c]
      cases (if 7 ≤ s then some (lt (s - 7).toNat, X) else tsCome X s (-1) (-1) g) with
      | none => rfl
      | some o =>
        simp only [Option.bind_some]
        rw [List.append_assoc, wtW_acc]
        cases wtW g st o.1 o.2 (ms ++ [o.1]) with
        | none => rfl
        | some z =>
          simp only [Option.map_some, Option.bind_some]
          exact ih _ _ _
set_option maxRecDepth 20000 in
theorem cl_same {n : Nat} {sg on ot h0 h1 g : Nat → Int} (h : IsCl n sg on ot h1 g) (e : ∀ k, HO n k → HClosed n sg on ot k → (HLe n h0 k ↔ HLe n h1 k)) : IsCl n sg on ot h0 g :=
  ⟨⟨h.1.1, (e g h.1.1 h.2).mpr h.1.2.1, fun k k1 k2 k3 => h.1.2.2 k k1 ((e k k1 k3).mp k2) k3⟩, h.2⟩
set_option maxRecDepth 20000 in
theorem tmHome_lt {n m : Nat} {h : Nat → Int} {x : Int} (hx : x < n) (hm : n ≤ m) : tmHome m h x = tmHome n h x := by
  unfold tmHome
  by_cases c : 0 ≤ x
  · rw [if_pos ⟨c, by omega⟩, if_pos ⟨c, hx⟩]
  · rw [if_neg (fun z => c z.1), if_neg (fun z => c z.1)]
-- what comes to a state, and to the state closed: a closed equivalence holds the one iff it holds the other
set_option maxRecDepth 20000 in
theorem le_iff {X X2 Z2 : TS} (hX : TsOK X) (x1 : TsExt X X2) (x2 : TsNew X X2) (z1 : TsExt (clX X) Z2) (z2 : TsNew (clX X) Z2) (e4 : TsE4 X2 Z2) (k : Nat → Int) (k1 : HO X2.1 k) (k2 : HClosed X2.1 X2.2.1 X2.2.2.1 X2.2.2.2.1 k) : HLe X2.1 X2.2.2.2.2.2 k ↔ HLe X2.1 Z2.2.2.2.2.2 k := by
  have hc := clH_ok hX.2.2.1
  have hn := x1.1
  have ex : ∀ j, j < X.1 → X2.2.2.2.2.2 j = X.2.2.2.2.2 j := fun j hj => (x1.2 j hj).2.2.2.2
  have ez : ∀ j, j < X.1 → Z2.2.2.2.2.2 j = clH X j := fun j hj => (z1.2 j hj).2.2.2.2
  have nx : ∀ j, X.1 ≤ j → j < X2.1 → X2.2.2.2.2.2 j = (j : Int) := x2
  have nz : ∀ j, X.1 ≤ j → j < X2.1 → Z2.2.2.2.2.2 j = (j : Int) := fun j a b => z2 j a (by rw [e4.1]; exact b)
  have hoX := hX.2.2.1
  have hoC := hc.1.1
  constructor
  · intro h a b ha hb e
    by_cases ca : a < X.1
    · by_cases cb : b < X.1
      · rw [ez a ca, ez b cb] at e
        refine hc.1.2.2 k (fun t ht => k1 t (by omega)) (fun t u ht hu q => h t u (by omega) (by omega) (by rw [ex t ht, ex u hu]; exact q)) (fun t u ht hu q => ?_) a b ca cb e
        refine k2 t u (by omega) (by omega) ?_
        obtain ⟨q1, q2, q3⟩ := q
        obtain ⟨a1, a2, a3, _⟩ := x1.2 t ht
        obtain ⟨b1, b2, b3, _⟩ := x1.2 u hu
        have wt := hX.2.1 t ht
        have wu := hX.2.1 u hu
        refine ⟨by rw [a1, b1]; exact q1, ?_, ?_⟩
        · rw [a2, b2, tmHome_lt (n := X.1) (by omega) hn, tmHome_lt (n := X.1) (by omega) hn]; exact q2
        · rw [a3, b3, tmHome_lt (n := X.1) (by omega) hn, tmHome_lt (n := X.1) (by omega) hn]; exact q3
      · rw [ez a ca, nz b (by omega) hb] at e
        have := hoC a ca
        omega
    · by_cases cb : b < X.1
      · rw [nz a (by omega) ha, ez b cb] at e
        have := hoC b cb
        omega
      · rw [nz a (by omega) ha, nz b (by omega) hb] at e
        have : a = b := by omega
        rw [this]
  · intro h a b ha hb e
    by_cases ca : a < X.1
    · by_cases cb : b < X.1
      · rw [ex a ca, ex b cb] at e
        exact h a b ha hb (by rw [ez a ca, ez b cb]; exact hc.1.2.1 a b ca cb e)
      · rw [ex a ca, nx b (by omega) hb] at e
        have := hoX a ca
        omega
    · by_cases cb : b < X.1
      · rw [nx a (by omega) ha, ex b cb] at e
        have := hoX b cb
        omega
      · rw [nx a (by omega) ha, nx b (by omega) hb] at e
        have : a = b := by omega
        rw [this]
set_option maxRecDepth 20000 in
theorem cl_end {X X2 Z2 : TS} (hX : TsOK X) (x1 : TsExt X X2) (x2 : TsNew X X2) (z1 : TsExt (clX X) Z2) (z2 : TsNew (clX X) Z2) (e4 : TsE4 X2 Z2) (hZ : HO Z2.1 Z2.2.2.2.2.2) (ms : List Int) {t u : Nat} (ht : t < X2.1) (hu : u < X2.1) : TsEq (clX (jnX (yX ms X2) t u)) (clX (jnX (yX ms Z2) t u)) := by
  have hn := e4.1
  have hR : IsCl Z2.1 Z2.2.1 Z2.2.2.1 Z2.2.2.2.1 (tmJn Z2.1 Z2.2.2.2.2.2 (Z2.2.2.2.2.2 t) (Z2.2.2.2.2.2 u)) (clH (jnX (yX ms Z2) t u)) := clH_ok (X := jnX (yX ms Z2) t u) (tmJn_HO hZ (by omega) (by omega))
  obtain ⟨g, hg⟩ : ∃ g, g = clH (jnX (yX ms Z2) t u) := ⟨_, rfl⟩
  rw [← hg, hn] at hR
  have hR2 : IsCl X2.1 X2.2.1 X2.2.2.1 X2.2.2.2.1 (tmJn X2.1 Z2.2.2.2.2.2 (Z2.2.2.2.2.2 t) (Z2.2.2.2.2.2 u)) g := IsCl_cg (fun j hj => ⟨(e4.2 j hj).1.symm, (e4.2 j hj).2.1.symm, (e4.2 j hj).2.2.1.symm⟩) (fun _ _ => rfl) (fun _ _ => rfl) hR
  have hP : IsCl X2.1 X2.2.1 X2.2.2.1 X2.2.2.2.1 (tmJn X2.1 X2.2.2.2.2.2 (X2.2.2.2.2.2 t) (X2.2.2.2.2.2 u)) g := cl_same hR2 (fun k k1 k2 => by
    have li := le_iff hX x1 x2 z1 z2 e4 k k1 k2
    constructor
    · intro y
      have y1 : HLe X2.1 X2.2.2.2.2.2 k := tmJn_le.trans y
      exact tmJn_least (li.mp y1) ht hu (y t u ht hu (tmJn_eq ht hu))
    · intro y
      have y1 : HLe X2.1 Z2.2.2.2.2.2 k := tmJn_le.trans y
      exact tmJn_least (li.mpr y1) ht hu (y t u ht hu (tmJn_eq ht hu)))
  have c1 := (clX_eq (TsEq.refl (jnX (yX ms X2) t u)) (g := g) hP).1
  refine c1.trans' ⟨hn, fun j hj => ?_⟩
  have hj : j < X2.1 := hj
  obtain ⟨a1, a2, a3, a4⟩ := e4.2 j hj
  refine ⟨a1, a2, a3, ?_, by rw [hg]; rfl⟩
  show gzL ms Z2.2.2.2.2.1 j = gzL ms X2.2.2.2.2.1 j
  exact gzL_cg ms _ _ (n := X2.1) (fun i hi => (e4.2 i hi).2.2.2) j hj
