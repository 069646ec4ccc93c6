/-! ===== 64: words: the signs of a side, as they are read (no machine) ===== -/
/-- the signs below a node, its own first -/
def pfF (sg on ot : Nat → Int) : Nat → Int → List Int
  | 0, _ => []
  | k + 1, i => if i < 0 then [] else sg i.toNat :: (pfF sg on ot k (on i.toNat) ++ pfF sg on ot k (ot i.toNat))
def pf (sg on ot : Nat → Int) (i : Int) : List Int := pfF sg on ot (i.toNat + 1) i
/-- the parts of the nodes fr .. m - 1 are among them, ahead of wholes -/
def PW (fr m : Nat) (on ot : Nat → Int) : Prop := ∀ i, fr ≤ i → i < m → on i < i ∧ ot i < i ∧ (0 ≤ on i → (fr : Int) ≤ on i) ∧ (0 ≤ ot i → (fr : Int) ≤ ot i)
theorem pf_neg {sg on ot : Nat → Int} {x : Int} (h : x < 0) : pf sg on ot x = [] := by unfold pf; simp only [pfF, h, if_true]
theorem pfF_cg {fr m : Nat} {sg on ot sg' on' ot' : Nat → Int} (h : PW fr m on ot) (e : ∀ i, fr ≤ i → i < m → sg' i = sg i ∧ on' i = on i ∧ ot' i = ot i) : ∀ (k : Nat) (x : Int), (0 ≤ x → (fr : Int) ≤ x) → x < m → pfF sg' on' ot' k x = pfF sg on ot k x := by
  intro k
  induction k with
  | zero => intro x _ _; rfl
  | succ k ih =>
    intro x h1 h2
    simp only [pfF]
    by_cases hx : x < 0
    · rw [if_pos hx, if_pos hx]
    · rw [if_neg hx, if_neg hx]
      have := h1 (by omega)
      obtain ⟨e1, e2, e3⟩ := e x.toNat (by omega) (by omega)
      obtain ⟨g1, g2, g3, g4⟩ := h x.toNat (by omega) (by omega)
      rw [e1, e2, e3, ih (on x.toNat) g3 (by omega), ih (ot x.toNat) g4 (by omega)]
theorem pf_cg {fr m : Nat} {sg on ot sg' on' ot' : Nat → Int} (h : PW fr m on ot) (e : ∀ i, fr ≤ i → i < m → sg' i = sg i ∧ on' i = on i ∧ ot' i = ot i) {x : Int} (h1 : 0 ≤ x → (fr : Int) ≤ x) (h2 : x < m) : pf sg' on' ot' x = pf sg on ot x := pfF_cg h e _ x h1 h2
theorem pfF_fuel {fr m : Nat} {sg on ot : Nat → Int} (h : PW fr m on ot) : ∀ (k k' : Nat) (x : Int), (0 ≤ x → (fr : Int) ≤ x) → x < m → x < k → x < k' → pfF sg on ot k x = pfF sg on ot k' x := by
  intro k
  induction k with
  | zero =>
    intro k' x h1 h2 h3 h4
    cases k' with
    | zero => rfl
    | succ k' => simp only [pfF]; rw [if_pos (by omega)]
  | succ k ih =>
    intro k' x h1 h2 h3 h4
    cases k' with
    | zero => simp only [pfF]; rw [if_pos (by omega)]
    | succ k' =>
      simp only [pfF]
      by_cases hx : x < 0
      · rw [if_pos hx, if_pos hx]
      · rw [if_neg hx, if_neg hx]
        have := h1 (by omega)
        obtain ⟨g1, g2, g3, g4⟩ := h x.toNat (by omega) (by omega)
        rw [ih k' (on x.toNat) g3 (by omega) (by omega) (by omega), ih k' (ot x.toNat) g4 (by omega) (by omega) (by omega)]
theorem pf_eq {fr m : Nat} {sg on ot : Nat → Int} (h : PW fr m on ot) {i : Nat} (h1 : fr ≤ i) (h2 : i < m) : pf sg on ot i = sg i :: (pf sg on ot (on i) ++ pf sg on ot (ot i)) := by
  obtain ⟨g1, g2, g3, g4⟩ := h i h1 h2
  have e : (i : Int).toNat = i := by omega
  conv => lhs; unfold pf
  rw [e]
  simp only [pfF, e]
  rw [if_neg (by omega)]
  have a : pfF sg on ot i (on i) = pf sg on ot (on i) := by
    by_cases z : on i < 0
    · rw [pf_neg z]; cases i with
      | zero => rfl
      | succ i => simp only [pfF]; rw [if_pos z]
    · exact pfF_fuel h _ _ _ g3 (by omega) (by omega) (by omega)
  have b : pfF sg on ot i (ot i) = pf sg on ot (ot i) := by
    by_cases z : ot i < 0
    · rw [pf_neg z]; cases i with
      | zero => rfl
      | succ i => simp only [pfF]; rw [if_pos z]
    · exact pfF_fuel h _ _ _ g4 (by omega) (by omega) (by omega)
  rw [a, b]
/-- nodes stand by the order in which they are closed -/
def POs (fr m : Nat) (sg on ot : Nat → Int) : Prop := ∀ i : Nat, fr ≤ i → i < m → fr + (pf sg on ot i).length ≤ i + 1 ∧ (4 ≤ sg i → sg i ≤ 5 → 0 ≤ on i ∧ on i + 1 = i ∧ ot i = -1) ∧ (sg i = 6 → 0 ≤ on i ∧ ot i + 1 = i ∧ on i + 1 + (pf sg on ot (ot i)).length = i) ∧ (sg i < 4 ∨ 7 ≤ sg i → on i = -1 ∧ ot i = -1) ∧ 0 ≤ sg i ∧ sg i ≤ 9
theorem POs.cg {fr m : Nat} {sg on ot sg' on' ot' : Nat → Int} (h : PW fr m on ot) (e : ∀ i, fr ≤ i → i < m → sg' i = sg i ∧ on' i = on i ∧ ot' i = ot i) (hp : POs fr m sg on ot) : POs fr m sg' on' ot' := by
  intro i h1 h2
  obtain ⟨e1, e2, e3⟩ := e i h1 h2
  have g := h i h1 h2
  have := hp i h1 h2
  rw [e1, e2, e3, pf_cg h e (fun _ => by omega) (by omega), pf_cg h e g.2.2.2 (by omega)]
  exact this
theorem PW.cg {fr m : Nat} {on ot on' ot' : Nat → Int} (h : PW fr m on ot) (e : ∀ i, fr ≤ i → i < m → on' i = on i ∧ ot' i = ot i) : PW fr m on' ot' := by
  intro i h1 h2
  rw [(e i h1 h2).1, (e i h1 h2).2]
  exact h i h1 h2
/-- what is open: the signs that are read -/
def stW (sg on ot os fs : Nat → Int) : Nat → List Int
  | 0 => []
  | k + 1 => stW sg on ot os fs k ++ os k :: pf sg on ot (fs k)
def ndZ (os fs : Nat → Int) : Nat → List Nat
  | 0 => []
  | k + 1 => (if os k = 6 ∧ fs k = -1 then 2 else 1) :: ndZ os fs k
theorem stW_len (sg on ot os fs : Nat → Int) : ∀ k, k ≤ (stW sg on ot os fs k).length := by
  intro k
  induction k with
  | zero => exact Nat.zero_le _
  | succ k ih => simp only [stW, List.length_append, List.length_cons]; omega
theorem stW_cg {sg on ot os fs sg' on' ot' os' fs' : Nat → Int} : ∀ k, (∀ j, j < k → os' j = os j ∧ pf sg' on' ot' (fs' j) = pf sg on ot (fs j)) → stW sg' on' ot' os' fs' k = stW sg on ot os fs k := by
  intro k
  induction k with
  | zero => intro _; rfl
  | succ k ih =>
    intro h
    simp only [stW]
    rw [ih (fun j hj => h j (by omega)), (h k (by omega)).1, (h k (by omega)).2]
theorem ndZ_cg {os fs os' fs' : Nat → Int} : ∀ k, (∀ j, j < k → os' j = os j ∧ fs' j = fs j) → ndZ os' fs' k = ndZ os fs k := by
  intro k
  induction k with
  | zero => intro _; rfl
  | succ k ih =>
    intro h
    simp only [ndZ]
    rw [ih (fun j hj => h j (by omega)), (h k (by omega)).1, (h k (by omega)).2]
/-- behind a whole part, by what is yet needed -/
def clW (b : Nat → Int) (n : Nat) : List Nat → Nat → Bool × List Nat × Nat
  | [], p => (true, [], p)
  | m :: r, p => if m = 2 then (decide (tkB b n p 44), 1 :: r, tkP b n p 44) else if tkB b n p 41 then clW b n r (tkP b n p 41) else (false, m :: r, tkP b n p 41)
/-- a side is read as a word -/
def sdW (b : Nat → Int) (n may : Nat) : Nat → List Nat → List Int → Nat → Bool × Nat × List Int
  | 0, _, w, p => (false, p, w)
  | k + 1, nd, w, p =>
    if sgOf (byt b n (skp b n p)) = -1 ∨ (7 ≤ sgOf (byt b n (skp b n p)) ∧ may.testBit (sgOf (byt b n (skp b n p)) - 7).toNat = false) then (false, skp b n p, w)
    else if 4 ≤ sgOf (byt b n (skp b n p)) ∧ sgOf (byt b n (skp b n p)) ≤ 6 then
      if tkB b n (skp b n p + 1) 40 then sdW b n may k ((if sgOf (byt b n (skp b n p)) = 6 then 2 else 1) :: nd) (w ++ [sgOf (byt b n (skp b n p))]) (tkP b n (skp b n p + 1) 40)
      else (false, tkP b n (skp b n p + 1) 40, w ++ [sgOf (byt b n (skp b n p))])
    else
      if (clW b n nd (skp b n p + 1)).1 = false then (false, (clW b n nd (skp b n p + 1)).2.2, w ++ [sgOf (byt b n (skp b n p))])
      else if (clW b n nd (skp b n p + 1)).2.1 = [] then (true, (clW b n nd (skp b n p + 1)).2.2, w ++ [sgOf (byt b n (skp b n p))])
      else sdW b n may k (clW b n nd (skp b n p + 1)).2.1 (w ++ [sgOf (byt b n (skp b n p))]) (clW b n nd (skp b n p + 1)).2.2
/-- what stands while a side's nodes are made -/
def WI (fr dp : Nat) (Z : ZS) : Prop := PW fr Z.1 Z.2.2.1 Z.2.2.2.1 ∧ POs fr Z.1 Z.2.1 Z.2.2.1 Z.2.2.2.1 ∧ ∀ k, k < dp → 4 ≤ Z.2.2.2.2.2.1 k ∧ Z.2.2.2.2.2.1 k ≤ 6 ∧ (Z.2.2.2.2.2.2.1 k = -1 ∨ (Z.2.2.2.2.2.1 k = 6 ∧ (fr : Int) ≤ Z.2.2.2.2.2.2.1 k ∧ Z.2.2.2.2.2.2.1 k < Z.1 ∧ Z.2.2.2.2.2.2.1 k + 1 + (k + 1) = (fr + (stW Z.2.1 Z.2.2.1 Z.2.2.2.1 Z.2.2.2.2.2.1 Z.2.2.2.2.2.2.1 (k + 1)).length : Nat)))
abbrev zW (Z : ZS) (dp : Nat) : List Int := stW Z.2.1 Z.2.2.1 Z.2.2.2.1 Z.2.2.2.2.2.1 Z.2.2.2.2.2.2.1 dp
abbrev zP (Z : ZS) (i : Nat) : List Int := pf Z.2.1 Z.2.2.1 Z.2.2.2.1 i
/-- a node comes behind those of a side -/
theorem WI.add {fr dp : Nat} {Z : ZS} (h : WI fr dp Z) (hf : fr ≤ Z.1) {s a c : Int} (ha : a < Z.1 ∧ (0 ≤ a → (fr : Int) ≤ a)) (hc : c < Z.1 ∧ (0 ≤ c → (fr : Int) ≤ c))
    (hl : fr + (pf Z.2.1 Z.2.2.1 Z.2.2.2.1 a).length + (pf Z.2.1 Z.2.2.1 Z.2.2.2.1 c).length ≤ Z.1) (h45 : 4 ≤ s → s ≤ 5 → 0 ≤ a ∧ a + 1 = Z.1 ∧ c = -1) (h6 : s = 6 → 0 ≤ a ∧ c + 1 = Z.1 ∧ a + 1 + (pf Z.2.1 Z.2.2.1 Z.2.2.2.1 c).length = Z.1) (h0 : s < 4 ∨ 7 ≤ s → a = -1 ∧ c = -1) (hs : 0 ≤ s ∧ s ≤ 9) :
    WI fr dp (zAdd Z s a c) ∧ zP (zAdd Z s a c) Z.1 = s :: (pf Z.2.1 Z.2.2.1 Z.2.2.2.1 a ++ pf Z.2.1 Z.2.2.1 Z.2.2.2.1 c) ∧ (∀ k, k ≤ dp → zW (zAdd Z s a c) k = zW Z k) ∧ ∀ x : Int, (0 ≤ x → (fr : Int) ≤ x) → x < Z.1 → pf (zAdd Z s a c).2.1 (zAdd Z s a c).2.2.1 (zAdd Z s a c).2.2.2.1 x = pf Z.2.1 Z.2.2.1 Z.2.2.2.1 x := by
  obtain ⟨w1, w2, w3⟩ := h
  have ec : ∀ i, fr ≤ i → i < Z.1 → (zAdd Z s a c).2.1 i = Z.2.1 i ∧ (zAdd Z s a c).2.2.1 i = Z.2.2.1 i ∧ (zAdd Z s a c).2.2.2.1 i = Z.2.2.2.1 i := fun i _ hi => ⟨vup_n (by omega), vup_n (by omega), vup_n (by omega)⟩
  have e0 : (zAdd Z s a c).2.1 Z.1 = s := vup_s
  have e1 : (zAdd Z s a c).2.2.1 Z.1 = a := vup_s
  have e2 : (zAdd Z s a c).2.2.2.1 Z.1 = c := vup_s
  have pold : ∀ x : Int, (0 ≤ x → (fr : Int) ≤ x) → x < Z.1 → pf (zAdd Z s a c).2.1 (zAdd Z s a c).2.2.1 (zAdd Z s a c).2.2.2.1 x = pf Z.2.1 Z.2.2.1 Z.2.2.2.1 x := fun x x1 x2 => pf_cg w1 ec x1 x2
  have pw : PW fr (Z.1 + 1) (zAdd Z s a c).2.2.1 (zAdd Z s a c).2.2.2.1 := by
    intro i h1 h2
    by_cases hi : i = Z.1
    · subst hi; rw [e1, e2]; exact ⟨ha.1, hc.1, ha.2, hc.2⟩
    · rw [(ec i h1 (by omega)).2.1, (ec i h1 (by omega)).2.2]; exact w1 i h1 (by omega)
  have pn : zP (zAdd Z s a c) Z.1 = s :: (pf Z.2.1 Z.2.2.1 Z.2.2.2.1 a ++ pf Z.2.1 Z.2.2.1 Z.2.2.2.1 c) := by
    unfold zP
    rw [pf_eq pw hf (by omega), e0, e1, e2, pold a ha.2 ha.1, pold c hc.2 hc.1]
  have sw : ∀ k, k ≤ dp → zW (zAdd Z s a c) k = zW Z k := fun k hk => stW_cg k (fun j hj => ⟨rfl, by
    have := w3 j (by omega)
    exact pold (Z.2.2.2.2.2.2.1 j) (fun _ => by omega) (by omega)⟩)
  refine ⟨⟨pw, ?_, ?_⟩, pn, sw, pold⟩
  · intro i h1 h2
    have h2 : i < Z.1 + 1 := h2
    by_cases hi : i = Z.1
    · subst hi
      have pn' := pn
      unfold zP at pn'
      rw [e0, e1, e2, pn', pold c hc.2 hc.1]
      refine ⟨by simp only [List.length_cons, List.length_append]; omega, h45, h6, h0, hs⟩
    · exact POs.cg w1 ec w2 i h1 (by omega)
  · intro k hk
    have := w3 k hk
    refine ⟨this.1, this.2.1, ?_⟩
    have e : (stW (zAdd Z s a c).2.1 (zAdd Z s a c).2.2.1 (zAdd Z s a c).2.2.2.1 (zAdd Z s a c).2.2.2.2.2.1 (zAdd Z s a c).2.2.2.2.2.2.1 (k + 1)) = stW Z.2.1 Z.2.2.1 Z.2.2.2.1 Z.2.2.2.2.2.1 Z.2.2.2.2.2.2.1 (k + 1) := sw (k + 1) (by omega)
    rw [e]
    rcases this.2.2 with q | ⟨q1, q2, q3, q4⟩
    · exact Or.inl q
    · exact Or.inr ⟨q1, q2, by show _ < ((Z.1 + 1 : Nat) : Int); have : Z.2.2.2.2.2.2.1 k < (Z.1 : Int) := q3; show Z.2.2.2.2.2.2.1 k < ((Z.1 + 1 : Nat) : Int); omega, q4⟩
