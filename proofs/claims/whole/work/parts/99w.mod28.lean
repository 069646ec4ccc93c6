/-! ===== 99w: the reference's order of FINDINGS (no machine) ===== -/
set_option maxRecDepth 20000 in
theorem sel_take {T : List E6} {p : E6 → Bool} {P : Nat → Bool} (h : ∀ (i : Nat) (e : E6), T[i]? = some e → P i = p e) : ∀ n, n ≤ T.length → ((List.range n).filter P).filterMap (fun j => T[j]?) = (T.take n).filter p := by
  intro n
  induction n with
  | zero => intro _; simp
  | succ n ih =>
    intro hn
    have hlt : n < T.length := by omega
    have ex := List.getElem?_eq_getElem hlt
    have et : T.take (n + 1) = T.take n ++ [T[n]] := by rw [List.take_succ_eq_append_getElem hlt]
    rw [List.range_succ, List.filter_append, List.filterMap_append, ih (by omega), et, List.filter_append]
    congr 1
    have hp := h n _ ex
    by_cases z : p T[n] = true
    · rw [List.filter_cons_of_pos z, List.filter_cons_of_pos (by rw [hp]; exact z)]
      simp [ex]
    · rw [List.filter_cons_of_neg z, List.filter_cons_of_neg (by rw [hp]; exact z)]
      rfl
set_option maxRecDepth 20000 in
theorem ORD_eq (od : Int) (T : List E6) : ORD od T = (List.range 50).flatMap (fun k => T.filter (fun e => (kf od e).toNat == k)) := by
  unfold ORD SQK
  rw [List.filterMap_flatMap]
  refine flatMap_cg _ (fun k _ => ?_)
  have := sel_take (T := T) (p := fun e => (kf od e).toNat == k) (P := fun i => kyOf od T i == k) (fun i e he => by rw [kyOf_eq he]) T.length (Nat.le_refl _)
  rw [this, List.take_length]
set_option maxRecDepth 20000 in
theorem flat_pad {G : Nat → List E6} {N : Nat} (h : ∀ k, N ≤ k → G k = []) : ∀ d, (List.range (N + d)).flatMap G = (List.range N).flatMap G := by
  intro d
  induction d with
  | zero => rfl
  | succ d ih =>
    rw [← Nat.add_assoc, List.range_succ, List.flatMap_append, ih]
    simp [h (N + d) (by omega)]
set_option maxRecDepth 20000 in
theorem flat_one {G : Nat → List E6} {n i : Nat} (hi : i < n) (h : ∀ k, k < n → k ≠ i → G k = []) : (List.range n).flatMap G = G i := by
  induction n with
  | zero => omega
  | succ n ih =>
    rw [List.range_succ, List.flatMap_append]
    by_cases e : i = n
    · subst e
      have : (List.range i).flatMap G = [] := by
        rw [List.flatMap_eq_nil_iff]
        intro k hk
        have := List.mem_range.mp hk
        exact h k (by omega) (by omega)
      rw [this]; simp
    · rw [ih (by omega) (fun k hk hne => h k (by omega) hne)]
      simp [h n (by omega) (fun z => e z.symm)]
set_option maxRecDepth 20000 in
theorem flat_none {G : Nat → List E6} {n : Nat} (h : ∀ k, k < n → G k = []) : (List.range n).flatMap G = [] := by
  rw [List.flatMap_eq_nil_iff]
  intro k hk
  exact h k (List.mem_range.mp hk)
set_option maxRecDepth 20000 in
theorem filter_nil_of {T : List E6} {p : E6 → Bool} (h : ∀ e ∈ T, p e = false) : T.filter p = [] := by
  rw [List.filter_eq_nil_iff]
  intro e he
  rw [h e he]; decide
set_option maxRecDepth 20000 in
theorem filter_all_of {T : List E6} {p : E6 → Bool} (h : ∀ e ∈ T, p e = true) : T.filter p = T := List.filter_eq_self.mpr h
set_option maxRecDepth 20000 in
theorem rev6 (F : Nat → List E6) : ∀ n, n ≤ 6 → (List.range n).flatMap (fun r => F (n - 1 - r)) = (List.range 6).flatMap (fun k => if 5 - k < n then F (5 - k) else []) := by
  intro n hn
  rcases (by omega : n = 0 ∨ n = 1 ∨ n = 2 ∨ n = 3 ∨ n = 4 ∨ n = 5 ∨ n = 6) with rfl | rfl | rfl | rfl | rfl | rfl | rfl
  all_goals first | rfl | simp [List.range_succ]
def rP (od : Int) (n r : Nat) : Nat := if od = 2 then n - 1 - r else r
def gP (od : Int) (t : Nat) : Int := if od = 1 then (t : Int) else -1
def pP (od : Int) (t : Nat) : Int := if od = 3 then (t : Int) else -1
def tiP (od : Int) : Nat := if od = 1 then 10 else if od = 3 then 50 else 1
set_option maxRecDepth 20000 in
theorem rP_n {od : Int} {n r : Nat} (h : od ≠ 2) : rP od n r = r := by unfold rP; rw [if_neg h]
set_option maxRecDepth 20000 in
theorem rP_2 {n r : Nat} : rP 2 n r = n - 1 - r := by unfold rP; rw [if_pos rfl]
set_option maxRecDepth 20000 in
theorem gP_1 {t : Nat} : gP 1 t = (t : Int) := by unfold gP; rw [if_pos rfl]
set_option maxRecDepth 20000 in
theorem gP_n {od : Int} {t : Nat} (h : od ≠ 1) : gP od t = -1 := by unfold gP; rw [if_neg h]
set_option maxRecDepth 20000 in
theorem pP_3 {t : Nat} : pP 3 t = (t : Int) := by unfold pP; rw [if_pos rfl]
set_option maxRecDepth 20000 in
theorem pP_n {od : Int} {t : Nat} (h : od ≠ 3) : pP od t = -1 := by unfold pP; rw [if_neg h]
-- what doesAll takes of a RULE at a time
def rfL (X : TS) (rl : RuL) (lim od : Int) (t r : Nat) : List E6 := (fnd6 X (rlL rl (rP od rl.length r)) ((rP od rl.length r : Nat) : Int)).filter (isP lim (gP od t) (pP od t))
set_option maxRecDepth 20000 in
theorem rf_ord {X : TS} {rl : RuL} (h6 : rl.length ≤ 6) {lim od : Int} (hl : lim ≤ 9) (hod : 0 ≤ od ∧ od ≤ 3) (h50 : X.1 ≤ 50) (hT : ∀ r, r < rl.length → ∀ e ∈ fnd6 X (rlL rl r) (r : Int), FGd X.1 (rlL rl r) (r : Int) e) : (List.range (tiP od)).flatMap (fun t => (List.range rl.length).flatMap (fun r => rfL X rl lim od t r)) = ORD od (tdsX X rl lim) := by
  rw [ORD_eq]
  have ef : ∀ q : E6 → Bool, (tdsX X rl lim).filter q = (List.range rl.length).flatMap (fun r => (fnd6 X (rlL rl r) (r : Int)).filter (fun e => q e && notLate lim e)) := fun q => by
    unfold tdsX
    rw [List.filter_flatMap]
    refine flatMap_cg _ (fun r _ => ?_)
    rw [List.filter_filter]
  have one : ∀ G : Nat → List E6, (List.range 1).flatMap G = G 0 := fun G => by simp [List.range_succ]
  rcases (by omega : od = 0 ∨ od = 1 ∨ od = 2 ∨ od = 3) with rfl | rfl | rfl | rfl
  · have e1 : tiP 0 = 1 := by decide
    rw [e1, one]
    have e2 : (List.range 50).flatMap (fun k => (tdsX X rl lim).filter (fun e => (kf 0 e).toNat == k)) = (List.range (rl.length + (50 - rl.length))).flatMap (fun k => (tdsX X rl lim).filter (fun e => (kf 0 e).toNat == k)) := by rw [show rl.length + (50 - rl.length) = 50 by omega]
    rw [e2, flat_pad (fun k hk => by
      rw [ef]
      refine flat_none (fun r hr => filter_nil_of (fun e he => ?_))
      have := (hT r hr e he).1
      have : (kf 0 e).toNat = r := by unfold kf; rw [if_neg (by decide), if_neg (by decide), if_neg (by decide)]; omega
      rw [this]
      have : (r == k) = false := by rw [beq_eq_false_iff_ne]; omega
      rw [this]; rfl)]
    refine flatMap_cg _ (fun k hk => ?_)
    have hk := List.mem_range.mp hk
    rw [ef, flat_one hk (fun r hr hne => filter_nil_of (fun e he => by
      have := (hT r hr e he).1
      have : (kf 0 e).toNat = r := by unfold kf; rw [if_neg (by decide), if_neg (by decide), if_neg (by decide)]; omega
      rw [this]
      have : (r == k) = false := by rw [beq_eq_false_iff_ne]; omega
      rw [this]; rfl))]
    unfold rfL
    rw [rP_n (by decide), gP_n (by decide), pP_n (by decide)]
    refine List.filter_congr (fun e he => ?_)
    have := (hT k hk e he).1
    have : (kf 0 e).toNat = k := by unfold kf; rw [if_neg (by decide), if_neg (by decide), if_neg (by decide)]; omega
    rw [this]
    simp [isP, notLate]
  · have e1 : tiP 1 = 10 := by decide
    rw [e1]
    have e2 : (List.range 50).flatMap (fun k => (tdsX X rl lim).filter (fun e => (kf 1 e).toNat == k)) = (List.range (10 + 40)).flatMap (fun k => (tdsX X rl lim).filter (fun e => (kf 1 e).toNat == k)) := rfl
    have ek : ∀ e : E6, kf 1 e = e.2.2.2.2.2 := fun e => by unfold kf; rw [if_pos rfl]
    rw [e2, flat_pad (fun k hk => by
      rw [ef]
      refine flat_none (fun r hr => filter_nil_of (fun e he => ?_))
      rw [ek]
      cases z : notLate lim e with
      | false => rw [Bool.and_false]
      | true =>
        unfold notLate at z
        rw [decide_eq_true_eq] at z
        have : (e.2.2.2.2.2.toNat == k) = false := by rw [beq_eq_false_iff_ne]; omega
        rw [this]; rfl)]
    refine flatMap_cg _ (fun t _ => ?_)
    rw [ef]
    refine flatMap_cg _ (fun r hr => ?_)
    have hr := List.mem_range.mp hr
    unfold rfL
    rw [rP_n (by decide), gP_1, pP_n (by decide)]
    refine List.filter_congr (fun e he => ?_)
    have := (hT r hr e he).2.2.1
    rw [ek, Bool.eq_iff_iff, isP_iff]
    simp only [notLate, Bool.and_eq_true, beq_iff_eq, decide_eq_true_eq]
    omega
  · have e1 : tiP 2 = 1 := by decide
    have ek : ∀ e : E6, kf 2 e = 5 - e.1 := fun e => by unfold kf; rw [if_neg (by decide), if_pos rfl]
    rw [e1, one]
    have hz : ∀ k, 6 ≤ k → (tdsX X rl lim).filter (fun e => (kf 2 e).toNat == k) = [] := fun k hk => by
      rw [ef]
      refine flat_none (fun r hr => filter_nil_of (fun e he => ?_))
      have := (hT r hr e he).1
      rw [ek]
      have : ((5 - e.1).toNat == k) = false := by rw [beq_eq_false_iff_ne]; omega
      rw [this]; rfl
    have hk0 : ∀ k, k < 6 → rl.length ≤ 5 - k → (tdsX X rl lim).filter (fun e => (kf 2 e).toNat == k) = [] := fun k hk hk2 => by
      rw [ef]
      refine flat_none (fun r hr => filter_nil_of (fun e he => ?_))
      have := (hT r hr e he).1
      rw [ek]
      have : ((5 - e.1).toNat == k) = false := by rw [beq_eq_false_iff_ne]; omega
      rw [this]; rfl
    have hk1 : ∀ k, k < 6 → 5 - k < rl.length → (tdsX X rl lim).filter (fun e => (kf 2 e).toNat == k) = (fnd6 X (rlL rl (5 - k)) ((5 - k : Nat) : Int)).filter (isP lim (-1) (-1)) := fun k hk hk2 => by
      rw [ef, flat_one hk2 (fun r hr hne => filter_nil_of (fun e he => by
        have := (hT r hr e he).1
        rw [ek]
        have : ((5 - e.1).toNat == k) = false := by rw [beq_eq_false_iff_ne]; omega
        rw [this]; rfl))]
      refine List.filter_congr (fun e he => ?_)
      have := (hT _ hk2 e he).1
      rw [ek, Bool.eq_iff_iff, isP_iff]
      simp only [notLate, Bool.and_eq_true, beq_iff_eq, decide_eq_true_eq]
      omega
    have e2 : (List.range 50).flatMap (fun k => (tdsX X rl lim).filter (fun e => (kf 2 e).toNat == k)) = (List.range (6 + 44)).flatMap (fun k => (tdsX X rl lim).filter (fun e => (kf 2 e).toNat == k)) := rfl
    rw [e2, flat_pad hz]
    have er : ∀ r, rfL X rl lim 2 0 r = (fnd6 X (rlL rl (rl.length - 1 - r)) ((rl.length - 1 - r : Nat) : Int)).filter (isP lim (-1) (-1)) := fun r => by
      unfold rfL
      rw [rP_2, gP_n (by decide), pP_n (by decide)]
    have eH : (List.range 6).flatMap (fun k => (tdsX X rl lim).filter (fun e => (kf 2 e).toNat == k)) = (List.range 6).flatMap (fun k => if 5 - k < rl.length then (fun r : Nat => (fnd6 X (rlL rl r) (r : Int)).filter (isP lim (-1) (-1))) (5 - k) else []) := flatMap_cg _ (fun k hk => by
      have hk := List.mem_range.mp hk
      by_cases z : 5 - k < rl.length
      · rw [if_pos z]; exact hk1 k hk z
      · rw [if_neg z]; exact hk0 k hk (by omega))
    rw [eH]
    refine Eq.trans ?_ (rev6 (fun r : Nat => (fnd6 X (rlL rl r) (r : Int)).filter (isP lim (-1) (-1))) _ h6)
    exact flatMap_cg _ (fun r _ => er r)
  · have e1 : tiP 3 = 50 := by decide
    rw [e1]
    have ek : ∀ e : E6, kf 3 e = e.2.2.2.2.1 := fun e => by unfold kf; rw [if_neg (by decide), if_neg (by decide), if_pos rfl]
    refine flatMap_cg _ (fun t _ => ?_)
    rw [ef]
    refine flatMap_cg _ (fun r hr => ?_)
    have hr := List.mem_range.mp hr
    unfold rfL
    rw [rP_n (by decide), gP_n (by decide), pP_3]
    refine List.filter_congr (fun e he => ?_)
    have := (hT r hr e he).2.1
    rw [ek, Bool.eq_iff_iff, isP_iff]
    simp only [notLate, Bool.and_eq_true, beq_iff_eq, decide_eq_true_eq]
    omega
