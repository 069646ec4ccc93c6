/-! ===== 67: what a word stands for; FINDINGS by words (no machine) ===== -/
/-- the CLASSES that a word's parts stand for, from its end; none: one stands for none -/
def evW (pl ch : Nat → Int) : List Int → Option (List Int)
  | [] => some []
  | s :: w => (evW pl ch w).bind (fun st =>
    if 7 ≤ s then (if ch (s - 7).toNat < 0 then none else some (ch (s - 7).toNat :: st))
    else if s < 4 then (if plK pl (tmKey s (-1) (-1)) < 0 then none else some (plK pl (tmKey s (-1) (-1)) :: st))
    else if s < 6 then (if plK pl (tmKey s (st.getD 0 (-1)) (-1)) < 0 then none else some (plK pl (tmKey s (st.getD 0 (-1)) (-1)) :: st.drop 1))
    else (if plK pl (tmKey s (st.getD 0 (-1)) (st.getD 1 (-1))) < 0 then none else some (plK pl (tmKey s (st.getD 0 (-1)) (st.getD 1 (-1))) :: st.drop 2)))
theorem tmKey_p {s p q : Int} (hs : 4 ≤ s) (hp : p < 0) : tmKey s p q = -1 := by
  unfold tmKey
  split
  · rfl
  · rw [if_neg (by omega), if_pos (by omega)]
theorem tmKey_q {s p q : Int} (hs : s = 6) (hq : q < 0) : tmKey s p q = -1 := by
  subst hs
  unfold tmKey
  rw [if_neg (by decide), if_neg (by decide)]
  split
  · rfl
  · rw [if_neg (by decide), if_pos (by omega)]
theorem plK_neg {pl : Nat → Int} {k : Int} (h : k < 0) : plK pl k = -1 := by unfold plK; rw [if_pos h]
theorem evW_node {fr m : Nat} {pl sg on ot ch : Nat → Int} (hw : PW fr m on ot) (hp : POs fr m sg on ot) (hn : ∀ i : Nat, fr ≤ i → i < m → tv pl sg on ot ch i = if 7 ≤ sg i then ch (sg i - 7).toNat else plK pl (tmKey (sg i) (tv pl sg on ot ch (on i)) (tv pl sg on ot ch (ot i)))) : ∀ i : Nat, fr ≤ i → i < m → ∀ w : List Int,
    evW pl ch (pf sg on ot i ++ w) = (evW pl ch w).bind (fun st => if tv pl sg on ot ch i < 0 then none else some (tv pl sg on ot ch i :: st)) := by
  intro i
  induction i using Nat.strongRecOn with
  | ind i ih =>
    intro h1 h2 w
    obtain ⟨p1, p2, p3, p4, p5, p6⟩ := hp i h1 h2
    obtain ⟨g1, g2, g3, g4⟩ := hw i h1 h2
    have e := pf_eq (sg := sg) hw h1 h2
    have t := hn i h1 h2
    by_cases c0 : sg i < 4 ∨ 7 ≤ sg i
    · obtain ⟨a, b⟩ := p4 c0
      rw [a, b, pf_neg (x := -1) (by decide)] at e
      rw [a, b, tv_neg (i := -1) (by decide)] at t
      rw [e]
      simp only [List.append_nil, List.cons_append, List.nil_append, evW]
      cases evW pl ch w with
      | none => rfl
      | some st =>
        simp only [Option.bind_some]
        by_cases c7 : 7 ≤ sg i
        · rw [if_pos c7] at t ⊢; rw [t]
        · rw [if_neg c7] at t ⊢; rw [if_pos (by omega), t]
    · rw [if_neg (by omega)] at t
      by_cases c6 : sg i = 6
      · obtain ⟨a0, a, b⟩ := p3 c6
        have q1 : on i = ((on i).toNat : Int) := by omega
        have q2 : ot i = ((ot i).toNat : Int) := by omega
        have i1 := ih (on i).toNat (by omega) (by omega) (by omega) (pf sg on ot (ot i) ++ w)
        have i2 := ih (ot i).toNat (by omega) (by omega) (by omega) w
        rw [← q1] at i1
        rw [← q2] at i2
        rw [e]
        simp only [List.cons_append, List.append_assoc, evW]
        rw [i1, i2]
        cases evW pl ch w with
        | none => rfl
        | some st =>
          simp only [Option.bind_some]
          by_cases c2 : tv pl sg on ot ch (ot i) < 0
          · rw [if_pos c2]
            simp only [Option.bind_none]
            rw [if_pos (by rw [t, tmKey_q c6 c2, plK_neg (by decide)]; decide)]
          · rw [if_neg c2]
            simp only [Option.bind_some]
            by_cases c1 : tv pl sg on ot ch (on i) < 0
            · rw [if_pos c1]
              simp only [Option.bind_none]
              rw [if_pos (by rw [t, tmKey_p (by omega) c1, plK_neg (by decide)]; decide)]
            · rw [if_neg c1]
              simp only [Option.bind_some]
              rw [if_neg (by omega), if_neg (by omega), if_neg (by omega)]
              simp only [List.getD_cons_zero, List.getD_cons_succ, List.drop_succ_cons, List.drop_zero]
              rw [t]
      · obtain ⟨a0, a, b⟩ := p2 (by omega) (by omega)
        have q1 : on i = ((on i).toNat : Int) := by omega
        have i1 := ih (on i).toNat (by omega) (by omega) (by omega) w
        rw [← q1] at i1
        rw [b, pf_neg (x := -1) (by decide), List.append_nil] at e
        rw [b, tv_neg (i := -1) (by decide)] at t
        rw [e]
        simp only [List.cons_append, evW]
        rw [i1]
        cases evW pl ch w with
        | none => rfl
        | some st =>
          simp only [Option.bind_some]
          by_cases c1 : tv pl sg on ot ch (on i) < 0
          · rw [if_pos c1]
            simp only [Option.bind_none]
            rw [if_pos (by rw [t, tmKey_p (by omega) c1, plK_neg (by decide)]; decide)]
          · rw [if_neg c1]
            simp only [Option.bind_some]
            rw [if_neg (by omega), if_neg (by omega), if_pos (by omega)]
            simp only [List.getD_cons_zero, List.drop_succ_cons, List.drop_zero]
            rw [t]
/-- all FINDINGS, by whether CLASSES fit -/
def ENW (n set : Nat) (ho : Nat → Int) (C : (Nat → Int) → Bool) : Nat → (Nat → Int) → List (Int × Int × Int)
  | 0, ch => if C ch = true then [(ch 0, ch 1, ch 2)] else []
  | k + 1, ch => if set.testBit (2 - k) then (List.range n).flatMap (fun c => if ho c = (c : Int) then ENW n set ho C k (va_up ch (2 - k) (c : Int)) else []) else ENW n set ho C k (va_up ch (2 - k) (-1))
theorem EN_ENW {lf n set : Nat} {ho pl sg on ot : Nat → Int} : ∀ (k : Nat) (ch : Nat → Int), EN lf n set ho pl sg on ot k ch = ENW n set ho (SA lf pl sg on ot) k ch := by
  intro k
  induction k with
  | zero => intro ch; rfl
  | succ k ih => intro ch; simp only [EN, ENW, ih]
/-- which ch an enumeration comes to: LETTERS of set stand for TERMS, others for none -/
def ChK (n set : Nat) (ch : Nat → Int) : Prop := ∀ l, l < 3 → (set.testBit l = true → 0 ≤ ch l ∧ ch l < n) ∧ (set.testBit l = false → ch l = -1)
theorem flatMap_cg {α β : Type} {f g : α → List β} : ∀ l : List α, (∀ t ∈ l, f t = g t) → l.flatMap f = l.flatMap g := by
  intro l
  induction l with
  | nil => intro _; rfl
  | cons a l ih => intro h; rw [List.flatMap_cons, List.flatMap_cons, h a List.mem_cons_self, ih (fun t ht => h t (List.mem_cons_of_mem _ ht))]
theorem ENW_cg {n set : Nat} {ho ho' : Nat → Int} {C C' : (Nat → Int) → Bool} (hh : ∀ t, t < n → ho' t = ho t) (hC : ∀ ch, ChK n set ch → C' ch = C ch) : ∀ (k : Nat) (ch : Nat → Int), k ≤ 3 → (∀ l, l + k < 3 → (set.testBit l = true → 0 ≤ ch l ∧ ch l < n) ∧ (set.testBit l = false → ch l = -1)) → ENW n set ho' C' k ch = ENW n set ho C k ch := by
  intro k
  induction k with
  | zero => intro ch _ h; simp only [ENW]; rw [hC ch (fun l hl => h l (by omega))]
  | succ k ih =>
    intro ch hk h
    simp only [ENW]
    by_cases c : set.testBit (2 - k) = true
    · rw [if_pos c, if_pos c]
      refine flatMap_cg _ (fun t ht => ?_)
      have ht := List.mem_range.mp ht
      rw [hh t ht]
      split
      · refine ih _ (by omega) (fun l hl => ?_)
        by_cases e : l = 2 - k
        · subst e; rw [vup_s]; exact ⟨fun _ => by omega, fun z => by rw [c] at z; cases z⟩
        · rw [vup_n e]; exact h l (by omega)
      · rfl
    · rw [if_neg c, if_neg c]
      refine ih _ (by omega) (fun l hl => ?_)
      by_cases e : l = 2 - k
      · subst e; rw [vup_s]; exact ⟨fun z => absurd z c, fun _ => rfl⟩
      · rw [vup_n e]; exact h l (by omega)
