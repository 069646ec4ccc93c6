/-! ===== 12: class Terms (now.terms is cell 2: size in 2, sign 3, one 4, other 5, generation 6, home 7) ===== -/
/-- the first t of t .. t + k - 1 with P, or -1 -/
def tmScan (P : Nat → Prop) [DecidablePred P] : Nat → Nat → Int
  | 0, _ => -1
  | k + 1, t => if P t then (t : Int) else tmScan P k (t + 1)
/-- how many of t .. t + k - 1 have P -/
def tmCnt (P : Nat → Prop) [DecidablePred P] : Nat → Nat → Nat
  | 0, _ => 0
  | k + 1, t => (if P t then 1 else 0) + tmCnt P k (t + 1)
theorem tmCnt_le (P : Nat → Prop) [DecidablePred P] : ∀ k t, tmCnt P k t ≤ k := by
  intro k
  induction k with
  | zero => intro t; simp [tmCnt]
  | succ k ih => intro t; have := ih (t + 1); simp only [tmCnt]; split <;> omega
theorem vup_if {α : Type} (f : Nat → α) (k j : Nat) (v : α) : va_up f k v j = if j = k then v else f j := rfl
section T12
variable {S : tmS} {I : Nat → Nat → Int} {L : Nat → Nat → Int64}
set_option maxRecDepth 20000 in
theorem c_has (hL : LX S) {n : Nat} (hn : I 2 0 = (n : Int)) (t : Int) (ht : inR t) : tmC yX8_has kX8_has 1 0 0 [tR 2, tI t] (S, I, L) (tmF (some (tI (if 0 ≤ t ∧ t < n then 1 else 0))) (S, I, L)) := by
  refine tmC.mk (lv := [some (tR 2), some (tI t)]) 0 ⟨rfl, by decide +kernel, by decide⟩ rfl rfl ?_
  refine wt_ir (fun hI => ?_)
  have o2 := oX2 hL
  have r2_1 := rX2_1 hL
  have r2_2 := rX2_2 hL
  have r2_3 := rX2_3 hL
  have r2_4 := rX2_4 hL
  have r2_5 := rX2_5 hL
  refine wa_iload_n dX8_has_0 rfl ?_
  refine wa_if_lt 16 dX8_has_1 (by decide) (by first | exact hI _ _ | exact ⟨by omega, by omega⟩ | assumption) (fun c_1 => ?_) (fun c_1 => ?_)
  · refine wa_iconst dX8_has_16 ?_
    refine wa_zreturn dX8_has_17 rfl (by first | exact Or.inl rfl | exact Or.inr rfl) ?_
    exact ⟨by first | rw [if_pos (by omega)] | rw [if_neg (by omega)], rfl⟩
  · refine wa_iload_n dX8_has_4 rfl ?_
    refine wa_aload_n dX8_has_5 rfl ?_
    refine wt_getI dX8_has_6 FX8_9 (by assumption) ?_
    refine wa_icmp_ge 16 dX8_has_9 (by decide) (by first | exact hI _ _ | exact ⟨by omega, by omega⟩ | assumption) (by first | exact hI _ _ | exact ⟨by omega, by omega⟩ | assumption) (fun c_9 => ?_) (fun c_9 => ?_)
    · refine wa_iconst dX8_has_16 ?_
      refine wa_zreturn dX8_has_17 rfl (by first | exact Or.inl rfl | exact Or.inr rfl) ?_
      exact ⟨by first | rw [if_pos (by omega)] | rw [if_neg (by omega)], rfl⟩
    · refine wa_iconst dX8_has_12 ?_
      refine wa_goto 17 dX8_has_13 (by decide) ?_
      refine wa_zreturn dX8_has_17 rfl (by first | exact Or.inl rfl | exact Or.inr rfl) ?_
      exact ⟨by first | rw [if_pos (by omega)] | rw [if_neg (by omega)], rfl⟩
/-- what homeOf answers -/
def tmHome (n : Nat) (ho : Nat → Int) (t : Int) : Int := if 0 ≤ t ∧ t < n then ho t.toNat else -1
set_option maxRecDepth 20000 in
theorem c_homeOf (hL : LX S) {n : Nat} (hn : I 2 0 = (n : Int)) (hn5 : n ≤ 50) (t : Int) (ht : inR t) : tmC yX8_homeOf kX8_homeOf 2 0 0 [tR 2, tI t] (S, I, L) (tmF (some (tI (tmHome n (I 7) t))) (S, I, L)) := by
  refine tmC.mk (lv := [some (tR 2), some (tI t)]) 0 ⟨rfl, by decide +kernel, by decide⟩ rfl rfl ?_
  refine wt_ir (fun hI => ?_)
  have o2 := oX2 hL
  have r2_1 := rX2_1 hL
  have r2_2 := rX2_2 hL
  have r2_3 := rX2_3 hL
  have r2_4 := rX2_4 hL
  have r2_5 := rX2_5 hL
  have o7 := oX7 hL
  by_cases hc : 0 ≤ t ∧ t < n
  · refine wa_aload_n dX8_homeOf_0 rfl ?_
    refine wa_iload_n dX8_homeOf_1 rfl ?_
    refine wa_callVf (ci := 8) dX8_homeOf_2 KX8_has LX8_37 ⟨_, _, rfl, by decide⟩ (by assumption) (by have := c_has (L := L) hL hn t ht; rw [if_pos hc] at this; exact this) (by decide) rfl rfl (Nat.le_of_ble_eq_true rfl) rfl rfl ?_
    refine wa_if_eq 17 dX8_homeOf_5 (by decide) (by first | exact hI _ _ | exact ⟨by omega, by omega⟩ | assumption) (fun c_5 => ?_) (fun c_5 => ?_)
    · omega
    · refine wa_aload_n dX8_homeOf_8 rfl ?_
      refine wt_getR dX8_homeOf_9 FX8_28 (by assumption) (by assumption) ?_
      refine wa_iload_n dX8_homeOf_12 rfl ?_
      refine wt_iald t.toNat dX8_homeOf_13 (by assumption) (by omega) (by omega) ?_
      refine wa_goto 18 dX8_homeOf_14 (by decide) ?_
      refine wa_ireturn dX8_homeOf_18 rfl ?_
      exact ⟨by rw [tmHome, if_pos hc], rfl⟩
  · refine wa_aload_n dX8_homeOf_0 rfl ?_
    refine wa_iload_n dX8_homeOf_1 rfl ?_
    refine wa_callVf (ci := 8) dX8_homeOf_2 KX8_has LX8_37 ⟨_, _, rfl, by decide⟩ (by assumption) (by have := c_has (L := L) hL hn t ht; rw [if_neg hc] at this; exact this) (by decide) rfl rfl (Nat.le_of_ble_eq_true rfl) rfl rfl ?_
    refine wa_if_eq 17 dX8_homeOf_5 (by decide) (by first | exact hI _ _ | exact ⟨by omega, by omega⟩ | assumption) (fun c_5 => ?_) (fun c_5 => ?_)
    · refine wa_iconst dX8_homeOf_17 ?_
      refine wa_ireturn dX8_homeOf_18 rfl ?_
      exact ⟨by rw [tmHome, if_neg hc], rfl⟩
    · omega
set_option maxRecDepth 20000 in
theorem lookUp_loop (hL : LX S) {n : Nat} (hn : I 2 0 = (n : Int)) (hn5 : n ≤ 50) (s p q : Int) (hs : inR s) (hp : inR p) (hq : inR q) : ∀ (k t : Nat), t + k = n →
    tmW kX8_lookUp 1 0 0 3 [some (tR 2), some (tI s), some (tI p), some (tI q), some (tI t)] [] (S, I, L) (tmF (some (tI (tmScan (fun t => I 3 t = s ∧ I 4 t = p ∧ I 5 t = q) k t))) (S, I, L)) := by
  intro k
  have o2 := oX2 hL
  have r2_1 := rX2_1 hL
  have r2_2 := rX2_2 hL
  have r2_3 := rX2_3 hL
  have r2_4 := rX2_4 hL
  have r2_5 := rX2_5 hL
  have o3 := oX3 hL
  have o4 := oX4 hL
  have o5 := oX5 hL
  induction k with
  | zero =>
    intro t ht
    refine wt_ir (fun hI => ?_)
    refine wa_iload dX8_lookUp_3 rfl ?_
    refine wa_aload_n dX8_lookUp_5 rfl ?_
    refine wt_getI dX8_lookUp_6 FX8_9 (by assumption) ?_
    refine wa_icmp_ge 54 dX8_lookUp_9 (by decide) (by first | exact hI _ _ | exact ⟨by omega, by omega⟩ | assumption) (by first | exact hI _ _ | exact ⟨by omega, by omega⟩ | assumption) (fun c_9 => ?_) (fun c_9 => ?_)
    · refine wa_iconst dX8_lookUp_54 ?_
      refine wa_ireturn dX8_lookUp_55 rfl ?_
      exact ⟨rfl, rfl⟩
    · omega
  | succ k ih =>
    intro t ht
    refine wt_ir (fun hI => ?_)
    have ih' := ih (t + 1) (by omega)
    refine wa_iload dX8_lookUp_3 rfl ?_
    refine wa_aload_n dX8_lookUp_5 rfl ?_
    refine wt_getI dX8_lookUp_6 FX8_9 (by assumption) ?_
    refine wa_icmp_ge 54 dX8_lookUp_9 (by decide) (by first | exact hI _ _ | exact ⟨by omega, by omega⟩ | assumption) (by first | exact hI _ _ | exact ⟨by omega, by omega⟩ | assumption) (fun c_9 => ?_) (fun c_9 => ?_)
    · omega
    · refine wa_aload_n dX8_lookUp_12 rfl ?_
      refine wt_getR dX8_lookUp_13 FX8_15 (by assumption) (by assumption) ?_
      refine wa_iload dX8_lookUp_16 rfl ?_
      refine wt_iald _ dX8_lookUp_18 (by assumption) rfl (by omega) ?_
      refine wa_iload_n dX8_lookUp_19 rfl ?_
      refine wa_icmp_ne 48 dX8_lookUp_20 (by decide) (by first | exact hI _ _ | exact ⟨by omega, by omega⟩ | assumption) (by first | exact hI _ _ | exact ⟨by omega, by omega⟩ | assumption) (fun c_20 => ?_) (fun c_20 => ?_)
      · rw [tmScan, if_neg (fun z => by omega)]
        refine wa_iinc dX8_lookUp_48 rfl (by decide) ?_
        refine wa_goto 3 dX8_lookUp_51 (by decide) ?_
        exact ih'
      · refine wa_aload_n dX8_lookUp_23 rfl ?_
        refine wt_getR dX8_lookUp_24 FX8_19 (by assumption) (by assumption) ?_
        refine wa_iload dX8_lookUp_27 rfl ?_
        refine wt_iald _ dX8_lookUp_29 (by assumption) rfl (by omega) ?_
        refine wa_iload_n dX8_lookUp_30 rfl ?_
        refine wa_icmp_ne 48 dX8_lookUp_31 (by decide) (by first | exact hI _ _ | exact ⟨by omega, by omega⟩ | assumption) (by first | exact hI _ _ | exact ⟨by omega, by omega⟩ | assumption) (fun c_31 => ?_) (fun c_31 => ?_)
        · rw [tmScan, if_neg (fun z => by omega)]
          refine wa_iinc dX8_lookUp_48 rfl (by decide) ?_
          refine wa_goto 3 dX8_lookUp_51 (by decide) ?_
          exact ih'
        · refine wa_aload_n dX8_lookUp_34 rfl ?_
          refine wt_getR dX8_lookUp_35 FX8_22 (by assumption) (by assumption) ?_
          refine wa_iload dX8_lookUp_38 rfl ?_
          refine wt_iald _ dX8_lookUp_40 (by assumption) rfl (by omega) ?_
          refine wa_iload_n dX8_lookUp_41 rfl ?_
          refine wa_icmp_ne 48 dX8_lookUp_42 (by decide) (by first | exact hI _ _ | exact ⟨by omega, by omega⟩ | assumption) (by first | exact hI _ _ | exact ⟨by omega, by omega⟩ | assumption) (fun c_42 => ?_) (fun c_42 => ?_)
          · rw [tmScan, if_neg (fun z => by omega)]
            refine wa_iinc dX8_lookUp_48 rfl (by decide) ?_
            refine wa_goto 3 dX8_lookUp_51 (by decide) ?_
            exact ih'
          · refine wa_iload dX8_lookUp_45 rfl ?_
            refine wa_ireturn dX8_lookUp_47 rfl ?_
            exact ⟨by rw [tmScan, if_pos ⟨c_20, c_31, c_42⟩], rfl⟩
set_option maxRecDepth 20000 in
theorem c_lookUp (hL : LX S) {n : Nat} (hn : I 2 0 = (n : Int)) (hn5 : n ≤ 50) (s p q : Int) (hs : inR s) (hp : inR p) (hq : inR q) : tmC yX8_lookUp kX8_lookUp 1 0 0 [tR 2, tI s, tI p, tI q] (S, I, L) (tmF (some (tI (tmScan (fun t => I 3 t = s ∧ I 4 t = p ∧ I 5 t = q) n 0))) (S, I, L)) := by
  refine tmC.mk (lv := [some (tR 2), some (tI s), some (tI p), some (tI q), none]) 1 ⟨rfl, by decide +kernel, by decide⟩ rfl rfl ?_
  refine wa_iconst dX8_lookUp_0 ?_
  refine wa_istore dX8_lookUp_1 (by decide) ?_
  exact lookUp_loop hL hn hn5 s p q hs hp hq n 0 (by omega)
/-- add: where there is room -/
def tmAdd (I : Nat → Nat → Int) (n : Nat) (s p q g : Int) : Nat → Nat → Int :=
  va_up (va_up (va_up (va_up (va_up (va_up I 3 (va_up (I 3) n s)) 4 (va_up (I 4) n p)) 5 (va_up (I 5) n q)) 6 (va_up (I 6) n g)) 7 (va_up (I 7) n n)) 2 (va_up (I 2) 0 (n + 1 : Nat))
set_option maxRecDepth 20000 in
theorem c_add (hL : LX S) {n : Nat} (hn : I 2 0 = (n : Int)) (hn5 : n < 50) (s p q g : Int) (hs : inR s) (hp : inR p) (hq : inR q) (hg : inR g) : tmC yX8_add kX8_add 1 0 0 [tR 2, tI s, tI p, tI q, tI g] (S, I, L) (tmF (some (tI n)) (S, tmAdd I n s p q g, L)) := by
  refine tmC.mk (lv := [some (tR 2), some (tI s), some (tI p), some (tI q), some (tI g)]) 0 ⟨rfl, by decide +kernel, by decide⟩ rfl rfl ?_
  refine wt_ir (fun hI => ?_)
  have o2 := oX2 hL
  have r2_1 := rX2_1 hL
  have r2_2 := rX2_2 hL
  have r2_3 := rX2_3 hL
  have r2_4 := rX2_4 hL
  have r2_5 := rX2_5 hL
  have o3 := oX3 hL
  have o4 := oX4 hL
  have o5 := oX5 hL
  have o6 := oX6 hL
  have o7 := oX7 hL
  refine wa_aload_n dX8_add_0 rfl ?_
  refine wt_getI dX8_add_1 FX8_9 (by assumption) ?_
  try simp only [vup_if, Nat.reduceEqDiff, ↓reduceIte, hn]
  refine wa_bipush dX8_add_4 rfl ?_
  refine wa_icmp_lt 11 dX8_add_6 (by decide) (by first | exact hI _ _ | exact ⟨by omega, by omega⟩ | assumption) (by first | exact hI _ _ | exact ⟨by omega, by omega⟩ | assumption) (fun c_6 => ?_) (fun c_6 => ?_)
  · refine wa_aload_n dX8_add_11 rfl ?_
    refine wt_getR dX8_add_12 FX8_15 (by assumption) (by assumption) ?_
    refine wa_aload_n dX8_add_15 rfl ?_
    refine wt_getI dX8_add_16 FX8_9 (by assumption) ?_
    try simp only [vup_if, Nat.reduceEqDiff, ↓reduceIte, hn]
    refine wa_iload_n dX8_add_19 rfl ?_
    refine wt_iast _ dX8_add_20 (by assumption) rfl (by omega) (by first | exact hI _ _ | exact ⟨by omega, by omega⟩ | assumption) ?_
    refine wa_aload_n dX8_add_21 rfl ?_
    refine wt_getR dX8_add_22 FX8_19 (by assumption) (by assumption) ?_
    refine wa_aload_n dX8_add_25 rfl ?_
    refine wt_getI dX8_add_26 FX8_9 (by assumption) ?_
    try simp only [vup_if, Nat.reduceEqDiff, ↓reduceIte, hn]
    refine wa_iload_n dX8_add_29 rfl ?_
    refine wt_iast _ dX8_add_30 (by assumption) rfl (by omega) (by first | exact hI _ _ | exact ⟨by omega, by omega⟩ | assumption) ?_
    refine wa_aload_n dX8_add_31 rfl ?_
    refine wt_getR dX8_add_32 FX8_22 (by assumption) (by assumption) ?_
    refine wa_aload_n dX8_add_35 rfl ?_
    refine wt_getI dX8_add_36 FX8_9 (by assumption) ?_
    try simp only [vup_if, Nat.reduceEqDiff, ↓reduceIte, hn]
    refine wa_iload_n dX8_add_39 rfl ?_
    refine wt_iast _ dX8_add_40 (by assumption) rfl (by omega) (by first | exact hI _ _ | exact ⟨by omega, by omega⟩ | assumption) ?_
    refine wa_aload_n dX8_add_41 rfl ?_
    refine wt_getR dX8_add_42 FX8_25 (by assumption) (by assumption) ?_
    refine wa_aload_n dX8_add_45 rfl ?_
    refine wt_getI dX8_add_46 FX8_9 (by assumption) ?_
    try simp only [vup_if, Nat.reduceEqDiff, ↓reduceIte, hn]
    refine wa_iload dX8_add_49 rfl ?_
    refine wt_iast _ dX8_add_51 (by assumption) rfl (by omega) (by first | exact hI _ _ | exact ⟨by omega, by omega⟩ | assumption) ?_
    refine wa_aload_n dX8_add_52 rfl ?_
    refine wt_getR dX8_add_53 FX8_28 (by assumption) (by assumption) ?_
    refine wa_aload_n dX8_add_56 rfl ?_
    refine wt_getI dX8_add_57 FX8_9 (by assumption) ?_
    try simp only [vup_if, Nat.reduceEqDiff, ↓reduceIte, hn]
    refine wa_aload_n dX8_add_60 rfl ?_
    refine wt_getI dX8_add_61 FX8_9 (by assumption) ?_
    try simp only [vup_if, Nat.reduceEqDiff, ↓reduceIte, hn]
    refine wt_iast _ dX8_add_64 (by assumption) rfl (by omega) (by first | exact hI _ _ | exact ⟨by omega, by omega⟩ | assumption) ?_
    refine wa_aload_n dX8_add_65 rfl ?_
    refine wa_dup dX8_add_66 rfl ?_
    refine wt_getI dX8_add_67 FX8_9 (by assumption) ?_
    try simp only [vup_if, Nat.reduceEqDiff, ↓reduceIte, hn]
    refine wa_iconst dX8_add_70 ?_
    refine wa_iadd dX8_add_71 ?_
    refine wt_putI dX8_add_72 FX8_9 (WX8_0 _ _) (by assumption) (by first | exact hI _ _ | exact ⟨by omega, by omega⟩ | assumption) ?_
    refine wa_aload_n dX8_add_75 rfl ?_
    refine wt_getI dX8_add_76 FX8_9 (by assumption) ?_
    try simp only [vup_if, Nat.reduceEqDiff, ↓reduceIte, hn]
    refine wa_iconst dX8_add_79 ?_
    refine wa_isub dX8_add_80 ?_
    refine wa_ireturn dX8_add_81 rfl ?_
    exact ⟨by congr 2; omega, rfl⟩
  · omega
set_option maxRecDepth 20000 in
theorem c_addFull (hL : LX S) (hn : I 2 0 = 50) (s p q g : Int) : tmC yX8_add kX8_add 1 0 0 [tR 2, tI s, tI p, tI q, tI g] (S, I, L) (tmF (some (tI (-1))) (S, I, L)) := by
  refine tmC.mk (lv := [some (tR 2), some (tI s), some (tI p), some (tI q), some (tI g)]) 0 ⟨rfl, by decide +kernel, by decide⟩ rfl rfl ?_
  refine wt_ir (fun hI => ?_)
  have o2 := oX2 hL
  have r2_1 := rX2_1 hL
  have r2_2 := rX2_2 hL
  have r2_3 := rX2_3 hL
  have r2_4 := rX2_4 hL
  have r2_5 := rX2_5 hL
  refine wa_aload_n dX8_add_0 rfl ?_
  refine wt_getI dX8_add_1 FX8_9 (by assumption) ?_
  refine wa_bipush dX8_add_4 rfl ?_
  refine wa_icmp_lt 11 dX8_add_6 (by decide) (by first | exact hI _ _ | exact ⟨by omega, by omega⟩ | assumption) (by first | exact hI _ _ | exact ⟨by omega, by omega⟩ | assumption) (fun c_6 => ?_) (fun c_6 => ?_)
  · omega
  · refine wa_iconst dX8_add_9 ?_
    refine wa_ireturn dX8_add_10 rfl ?_
    exact ⟨rfl, rfl⟩
/-- two CLASSES become one: a and b their names -/
def tmJn (n : Nat) (ho : Nat → Int) (a b : Int) : Nat → Int := fun j => if j < n ∧ ho j = (if a < b then b else a) then (if b < a then b else a) else ho j
def tmJp (ho : Nat → Int) (a i : Nat) (hi lo : Int) : Nat → Int := fun j => if a ≤ j ∧ j < i ∧ ho j = hi then lo else ho j
theorem tmJp_0 (ho : Nat → Int) (a : Nat) (hi lo : Int) : tmJp ho a a hi lo = ho := by funext j; simp only [tmJp]; rw [if_neg (by omega)]
theorem tmJp_y {ho : Nat → Int} {a i : Nat} {hi lo : Int} (ha : a ≤ i) (h : ho i = hi) : va_up (tmJp ho a i hi lo) i lo = tmJp ho a (i + 1) hi lo := by
  funext j
  by_cases hj : j = i
  · subst hj; simp only [vup_if, if_true, tmJp]; rw [if_pos ⟨ha, by omega, h⟩]
  · simp only [vup_if, hj, if_false, tmJp]
    by_cases h2 : a ≤ j ∧ j < i ∧ ho j = hi
    · rw [if_pos h2, if_pos ⟨h2.1, by omega, h2.2.2⟩]
    · rw [if_neg h2, if_neg (fun z => h2 ⟨z.1, by omega, z.2.2⟩)]
theorem tmJp_n {ho : Nat → Int} {a i : Nat} {hi lo : Int} (h : ¬ ho i = hi) : tmJp ho a i hi lo = tmJp ho a (i + 1) hi lo := by
  funext j
  simp only [tmJp]
  by_cases hj : j = i
  · subst hj; rw [if_neg (fun z => h z.2.2), if_neg (fun z => h z.2.2)]
  · by_cases h2 : a ≤ j ∧ j < i ∧ ho j = hi
    · rw [if_pos h2, if_pos ⟨h2.1, by omega, h2.2.2⟩]
    · rw [if_neg h2, if_neg (fun z => h2 ⟨z.1, by omega, z.2.2⟩)]
theorem tmJp_i {ho : Nat → Int} {a i : Nat} {hi lo : Int} : tmJp ho a i hi lo i = ho i := by simp only [tmJp]; rw [if_neg (by omega)]
set_option maxRecDepth 20000 in
theorem unite_loop (hL : LX S) {n : Nat} (hn : I 2 0 = (n : Int)) (hn5 : n ≤ 50) (t u x y lo hi : Int) (hlo : inR lo) (hhi : inR hi) (a : Nat) : ∀ (k i : Nat), i + k = n → a ≤ i →
    tmW kX8_unite 3 0 0 50 [some (tR 2), some (tI t), some (tI u), some (tI x), some (tI y), some (tI lo), some (tI hi), some (tI i)] [] (S, va_up I 7 (tmJp (I 7) a i hi lo), L) (tmF (some (tI 1)) (S, va_up I 7 (tmJp (I 7) a n hi lo), L)) := by
  intro k
  have o2 := oX2 hL
  have r2_1 := rX2_1 hL
  have r2_2 := rX2_2 hL
  have r2_3 := rX2_3 hL
  have r2_4 := rX2_4 hL
  have r2_5 := rX2_5 hL
  have o7 := oX7 hL
  induction k with
  | zero =>
    intro i hi' ha
    obtain rfl : i = n := by omega
    refine wt_ir (fun hI => ?_)
    refine wa_iload dX8_unite_50 rfl ?_
    refine wa_aload_n dX8_unite_52 rfl ?_
    refine wt_getI dX8_unite_53 FX8_9 (by assumption) ?_
    try simp only [vup_if, Nat.reduceEqDiff, ↓reduceIte, hn]
    refine wa_icmp_ge 86 dX8_unite_56 (by decide) (by first | exact hI _ _ | exact ⟨by omega, by omega⟩ | assumption) (by first | exact hI _ _ | exact ⟨by omega, by omega⟩ | assumption) (fun c_56 => ?_) (fun c_56 => ?_)
    · refine wa_iconst dX8_unite_86 ?_
      refine wa_zreturn dX8_unite_87 rfl (by first | exact Or.inl rfl | exact Or.inr rfl) ?_
      exact ⟨rfl, rfl⟩
    · omega
  | succ k ih =>
    intro i hi' ha
    refine wt_ir (fun hI => ?_)
    have ih' := ih (i + 1) (by omega) (by omega)
    have hIi := hI 7 i
    simp only [vup_if, ↓reduceIte, tmJp_i] at hIi
    refine wa_iload dX8_unite_50 rfl ?_
    refine wa_aload_n dX8_unite_52 rfl ?_
    refine wt_getI dX8_unite_53 FX8_9 (by assumption) ?_
    try simp only [vup_if, Nat.reduceEqDiff, ↓reduceIte, hn, tmJp_i]
    refine wa_icmp_ge 86 dX8_unite_56 (by decide) (by first | exact ⟨by omega, by omega⟩ | assumption) (by first | exact ⟨by omega, by omega⟩ | assumption) (fun c_56 => ?_) (fun c_56 => ?_)
    · omega
    · refine wa_aload_n dX8_unite_59 rfl ?_
      refine wt_getR dX8_unite_60 FX8_28 (by assumption) (by assumption) ?_
      refine wa_iload dX8_unite_63 rfl ?_
      refine wt_iald _ dX8_unite_65 (by assumption) rfl (by omega) ?_
      try simp only [vup_if, Nat.reduceEqDiff, ↓reduceIte, hn, tmJp_i]
      refine wa_iload dX8_unite_66 rfl ?_
      refine wa_icmp_ne 80 dX8_unite_68 (by decide) (by first | exact ⟨by omega, by omega⟩ | assumption) (by first | exact ⟨by omega, by omega⟩ | assumption) (fun c_68 => ?_) (fun c_68 => ?_)
      · rw [tmJp_n c_68]
        try rw [vup_vup, vup_s, tmJp_y ha c_68]
        refine wa_iinc dX8_unite_80 rfl (by decide) ?_
        refine wa_goto 50 dX8_unite_83 (by decide) ?_
        exact ih'
      · skip
        refine wa_aload_n dX8_unite_71 rfl ?_
        refine wt_getR dX8_unite_72 FX8_28 (by assumption) (by assumption) ?_
        refine wa_iload dX8_unite_75 rfl ?_
        refine wa_iload dX8_unite_77 rfl ?_
        refine wt_iast _ dX8_unite_79 (by assumption) rfl (by omega) (by first | exact ⟨by omega, by omega⟩ | assumption) ?_
        try rw [vup_vup, vup_s, tmJp_y ha c_68]
        refine wa_iinc dX8_unite_80 rfl (by decide) ?_
        refine wa_goto 50 dX8_unite_83 (by decide) ?_
        exact ih'
set_option maxRecDepth 20000 in
theorem c_unite (hL : LX S) {n : Nat} (hn : I 2 0 = (n : Int)) (hn5 : n ≤ 50) (hh : ∀ t, t < n → 0 ≤ I 7 t ∧ I 7 t ≤ t) (t u : Nat) (ht : t < n) (hu : u < n) :
    tmC yX8_unite kX8_unite 3 0 0 [tR 2, tI t, tI u] (S, I, L) (tmF (some (tI (if I 7 t = I 7 u then 0 else 1))) (S, va_up I 7 (tmJn n (I 7) (I 7 t) (I 7 u)), L)) := by
  refine tmC.mk (lv := [some (tR 2), some (tI t), some (tI u), none, none, none, none, none]) 5 ⟨rfl, by decide +kernel, by decide⟩ rfl rfl ?_
  refine wt_ir (fun hI => ?_)
  have o2 := oX2 hL
  have r2_1 := rX2_1 hL
  have r2_2 := rX2_2 hL
  have r2_3 := rX2_3 hL
  have r2_4 := rX2_4 hL
  have r2_5 := rX2_5 hL
  have o7 := oX7 hL
  have h1 := hh t ht
  have h2 := hh u hu
  have e1 : tmHome n (I 7) (t : Int) = I 7 t := by rw [tmHome, if_pos ⟨by omega, by omega⟩]; rfl
  have e2 : tmHome n (I 7) (u : Int) = I 7 u := by rw [tmHome, if_pos ⟨by omega, by omega⟩]; rfl
  have same : I 7 t = I 7 u → va_up I 7 (tmJn n (I 7) (I 7 t) (I 7 u)) = I := by
    intro e
    have : tmJn n (I 7) (I 7 t) (I 7 u) = I 7 := by
      funext j
      simp only [tmJn, e, Int.lt_irrefl, if_false]
      split
      · next h => exact h.2.symm
      · rfl
    rw [this, vup_self]
  have diff : va_up I 7 (tmJp (I 7) (if I 7 t < I 7 u then I 7 u else I 7 t).toNat n (if I 7 t < I 7 u then I 7 u else I 7 t) (if I 7 u < I 7 t then I 7 u else I 7 t)) = va_up I 7 (tmJn n (I 7) (I 7 t) (I 7 u)) := by
    congr 1
    funext j
    simp only [tmJp, tmJn]
    generalize (if I 7 t < I 7 u then I 7 u else I 7 t) = hi
    generalize (if I 7 u < I 7 t then I 7 u else I 7 t) = lo
    by_cases hj : j < n
    · have := hh j hj
      by_cases h3 : I 7 j = hi
      · rw [if_pos ⟨by omega, hj, h3⟩, if_pos ⟨hj, h3⟩]
      · rw [if_neg (fun z => h3 z.2.2), if_neg (fun z => h3 z.2)]
    · rw [if_neg (fun z => hj z.2.1), if_neg (fun z => hj z.1)]
  refine wa_aload_n dX8_unite_0 rfl ?_
  refine wa_iload_n dX8_unite_1 rfl ?_
  refine wa_callVf (ci := 8) dX8_unite_2 KX8_homeOf LX8_41 ⟨_, _, rfl, by decide⟩ (by assumption) (by have := c_homeOf (L := L) hL hn hn5 (t : Int) ⟨by omega, by omega⟩; rw [e1] at this; exact this) (by decide) rfl rfl (Nat.le_of_ble_eq_true rfl) rfl rfl ?_
  refine wa_istore_n dX8_unite_5 (by decide) ?_
  refine wa_aload_n dX8_unite_6 rfl ?_
  refine wa_iload_n dX8_unite_7 rfl ?_
  refine wa_callVf (ci := 8) dX8_unite_8 KX8_homeOf LX8_41 ⟨_, _, rfl, by decide⟩ (by assumption) (by have := c_homeOf (L := L) hL hn hn5 (u : Int) ⟨by omega, by omega⟩; rw [e2] at this; exact this) (by decide) rfl rfl (Nat.le_of_ble_eq_true rfl) rfl rfl ?_
  refine wa_istore dX8_unite_11 (by decide) ?_
  refine wa_iload_n dX8_unite_13 rfl ?_
  refine wa_iload dX8_unite_14 rfl ?_
  refine wa_icmp_eq 28 dX8_unite_16 (by decide) (by first | exact hI _ _ | exact ⟨by omega, by omega⟩ | assumption) (by first | exact hI _ _ | exact ⟨by omega, by omega⟩ | assumption) (fun c_16 => ?_) (fun c_16 => ?_)
  · refine wa_iconst dX8_unite_28 ?_
    refine wa_zreturn dX8_unite_29 rfl (by first | exact Or.inl rfl | exact Or.inr rfl) ?_
    rw [if_pos c_16, same c_16]
    exact ⟨rfl, rfl⟩
  · refine wa_iload_n dX8_unite_19 rfl ?_
    refine wa_if_lt 28 dX8_unite_20 (by decide) (by first | exact hI _ _ | exact ⟨by omega, by omega⟩ | assumption) (fun c_20 => ?_) (fun c_20 => ?_)
    · omega
    · refine wa_iload dX8_unite_23 rfl ?_
      refine wa_if_ge 30 dX8_unite_25 (by decide) (by first | exact hI _ _ | exact ⟨by omega, by omega⟩ | assumption) (fun c_25 => ?_) (fun c_25 => ?_)
      · refine wa_iload_n dX8_unite_30 rfl ?_
        refine wa_iload dX8_unite_31 rfl ?_
        refine wa_min dX8_unite_33 LX8_45 (by decide) (Nat.le_of_ble_eq_true rfl) (by first | exact hI _ _ | exact ⟨by omega, by omega⟩ | assumption) (by first | exact hI _ _ | exact ⟨by omega, by omega⟩ | assumption) ?_
        refine wa_istore dX8_unite_36 (by decide) ?_
        refine wa_iload_n dX8_unite_38 rfl ?_
        refine wa_iload dX8_unite_39 rfl ?_
        refine wa_max dX8_unite_41 LX8_51 (by decide) (Nat.le_of_ble_eq_true rfl) (by first | exact hI _ _ | exact ⟨by omega, by omega⟩ | assumption) (by first | exact hI _ _ | exact ⟨by omega, by omega⟩ | assumption) ?_
        refine wa_istore dX8_unite_44 (by decide) ?_
        refine wa_iload dX8_unite_46 rfl ?_
        refine wa_istore dX8_unite_48 (by decide) ?_
        have lp := unite_loop (L := L) hL hn hn5 t u (I 7 t) (I 7 u) (if I 7 u < I 7 t then I 7 u else I 7 t) (if I 7 t < I 7 u then I 7 u else I 7 t) (by split <;> exact hI _ _) (by split <;> exact hI _ _) (if I 7 t < I 7 u then I 7 u else I 7 t).toNat (n - (if I 7 t < I 7 u then I 7 u else I 7 t).toNat) (if I 7 t < I 7 u then I 7 u else I 7 t).toNat (by split <;> omega) (Nat.le_refl _)
        rw [tmJp_0, vup_self, diff] at lp
        rw [if_neg c_16]
        have ec : (((if I 7 t < I 7 u then I 7 u else I 7 t).toNat : Nat) : Int) = (if I 7 t < I 7 u then I 7 u else I 7 t) := by split <;> omega
        rw [ec] at lp
        exact lp
      · omega
set_option maxRecDepth 20000 in
theorem countClasses_loop (hL : LX S) {n : Nat} (hn : I 2 0 = (n : Int)) (hn5 : n ≤ 50) (b : Nat) (hb : b ≤ n) : ∀ (k t c : Nat), t + k = b → c ≤ t →
    tmW kX8_countClasses 1 0 0 4 [some (tR 2), some (tI b), some (tI c), some (tI t)] [] (S, I, L) (tmF (some (tI ((c + tmCnt (fun t => I 7 t = t) k t : Nat) : Int))) (S, I, L)) := by
  intro k
  have o2 := oX2 hL
  have r2_1 := rX2_1 hL
  have r2_2 := rX2_2 hL
  have r2_3 := rX2_3 hL
  have r2_4 := rX2_4 hL
  have r2_5 := rX2_5 hL
  have o7 := oX7 hL
  induction k with
  | zero =>
    intro t c ht hc
    refine wt_ir (fun hI => ?_)
    refine wa_iload_n dX8_countClasses_4 rfl ?_
    refine wa_iload_n dX8_countClasses_5 rfl ?_
    refine wa_icmp_ge 36 dX8_countClasses_6 (by decide) (by first | exact hI _ _ | exact ⟨by omega, by omega⟩ | assumption) (by first | exact hI _ _ | exact ⟨by omega, by omega⟩ | assumption) (fun c_6 => ?_) (fun c_6 => ?_)
    · refine wa_iload_n dX8_countClasses_36 rfl ?_
      refine wa_ireturn dX8_countClasses_37 rfl ?_
      exact ⟨rfl, rfl⟩
    · omega
  | succ k ih =>
    intro t c ht hc
    refine wt_ir (fun hI => ?_)
    have ih1 := ih (t + 1) (c + 1) (by omega) (by omega)
    have ih0 := ih (t + 1) c (by omega) (by omega)
    refine wa_iload_n dX8_countClasses_4 rfl ?_
    refine wa_iload_n dX8_countClasses_5 rfl ?_
    refine wa_icmp_ge 36 dX8_countClasses_6 (by decide) (by first | exact hI _ _ | exact ⟨by omega, by omega⟩ | assumption) (by first | exact hI _ _ | exact ⟨by omega, by omega⟩ | assumption) (fun c_6 => ?_) (fun c_6 => ?_)
    · omega
    · refine wa_iload_n dX8_countClasses_9 rfl ?_
      refine wa_aload_n dX8_countClasses_10 rfl ?_
      refine wt_getI dX8_countClasses_11 FX8_9 (by assumption) ?_
      refine wa_icmp_ge 36 dX8_countClasses_14 (by decide) (by first | exact hI _ _ | exact ⟨by omega, by omega⟩ | assumption) (by first | exact hI _ _ | exact ⟨by omega, by omega⟩ | assumption) (fun c_14 => ?_) (fun c_14 => ?_)
      · omega
      · refine wa_aload_n dX8_countClasses_17 rfl ?_
        refine wt_getR dX8_countClasses_18 FX8_28 (by assumption) (by assumption) ?_
        refine wa_iload_n dX8_countClasses_21 rfl ?_
        refine wt_iald _ dX8_countClasses_22 (by assumption) rfl (by omega) ?_
        refine wa_iload_n dX8_countClasses_23 rfl ?_
        refine wa_icmp_ne 30 dX8_countClasses_24 (by decide) (by first | exact hI _ _ | exact ⟨by omega, by omega⟩ | assumption) (by first | exact hI _ _ | exact ⟨by omega, by omega⟩ | assumption) (fun c_24 => ?_) (fun c_24 => ?_)
        · rw [tmCnt, if_neg c_24, Nat.zero_add]
          refine wa_iinc dX8_countClasses_30 rfl (by decide) ?_
          refine wa_goto 4 dX8_countClasses_33 (by decide) ?_
          first | exact ih1 | exact ih0
        · rw [tmCnt, if_pos c_24, ← Nat.add_assoc]
          refine wa_iinc dX8_countClasses_27 rfl (by decide) ?_
          refine wa_iinc dX8_countClasses_30 rfl (by decide) ?_
          refine wa_goto 4 dX8_countClasses_33 (by decide) ?_
          first | exact ih1 | exact ih0
set_option maxRecDepth 20000 in
theorem c_countClasses (hL : LX S) {n : Nat} (hn : I 2 0 = (n : Int)) (hn5 : n ≤ 50) (b : Nat) (hb : b ≤ n) : tmC yX8_countClasses kX8_countClasses 1 0 0 [tR 2, tI b] (S, I, L) (tmF (some (tI ((tmCnt (fun t => I 7 t = t) b 0 : Nat) : Int))) (S, I, L)) := by
  refine tmC.mk (lv := [some (tR 2), some (tI b), none, none]) 2 ⟨rfl, by decide +kernel, by decide⟩ rfl rfl ?_
  refine wa_iconst dX8_countClasses_0 ?_
  refine wa_istore_n dX8_countClasses_1 (by decide) ?_
  refine wa_iconst dX8_countClasses_2 ?_
  refine wa_istore_n dX8_countClasses_3 (by decide) ?_
  have lp := countClasses_loop (L := L) hL hn hn5 b hb b 0 0 (by omega) (by omega)
  rw [Nat.zero_add] at lp
  exact lp
set_option maxRecDepth 20000 in
theorem countIn_loop (hL : LX S) {n : Nat} (hn : I 2 0 = (n : Int)) (hn5 : n ≤ 50) (x : Int) (hx : inR x) : ∀ (k t c : Nat), t + k = n → c ≤ t →
    tmW kX8_countIn 1 0 0 4 [some (tR 2), some (tI x), some (tI c), some (tI t)] [] (S, I, L) (tmF (some (tI ((c + tmCnt (fun t => I 7 t = x) k t : Nat) : Int))) (S, I, L)) := by
  intro k
  have o2 := oX2 hL
  have r2_1 := rX2_1 hL
  have r2_2 := rX2_2 hL
  have r2_3 := rX2_3 hL
  have r2_4 := rX2_4 hL
  have r2_5 := rX2_5 hL
  have o7 := oX7 hL
  induction k with
  | zero =>
    intro t c ht hc
    refine wt_ir (fun hI => ?_)
    refine wa_iload_n dX8_countIn_4 rfl ?_
    refine wa_aload_n dX8_countIn_5 rfl ?_
    refine wt_getI dX8_countIn_6 FX8_9 (by assumption) ?_
    refine wa_icmp_ge 31 dX8_countIn_9 (by decide) (by first | exact hI _ _ | exact ⟨by omega, by omega⟩ | assumption) (by first | exact hI _ _ | exact ⟨by omega, by omega⟩ | assumption) (fun c_9 => ?_) (fun c_9 => ?_)
    · refine wa_iload_n dX8_countIn_31 rfl ?_
      refine wa_ireturn dX8_countIn_32 rfl ?_
      exact ⟨rfl, rfl⟩
    · omega
  | succ k ih =>
    intro t c ht hc
    refine wt_ir (fun hI => ?_)
    have ih1 := ih (t + 1) (c + 1) (by omega) (by omega)
    have ih0 := ih (t + 1) c (by omega) (by omega)
    refine wa_iload_n dX8_countIn_4 rfl ?_
    refine wa_aload_n dX8_countIn_5 rfl ?_
    refine wt_getI dX8_countIn_6 FX8_9 (by assumption) ?_
    refine wa_icmp_ge 31 dX8_countIn_9 (by decide) (by first | exact hI _ _ | exact ⟨by omega, by omega⟩ | assumption) (by first | exact hI _ _ | exact ⟨by omega, by omega⟩ | assumption) (fun c_9 => ?_) (fun c_9 => ?_)
    · omega
    · refine wa_aload_n dX8_countIn_12 rfl ?_
      refine wt_getR dX8_countIn_13 FX8_28 (by assumption) (by assumption) ?_
      refine wa_iload_n dX8_countIn_16 rfl ?_
      refine wt_iald _ dX8_countIn_17 (by assumption) rfl (by omega) ?_
      refine wa_iload_n dX8_countIn_18 rfl ?_
      refine wa_icmp_ne 25 dX8_countIn_19 (by decide) (by first | exact hI _ _ | exact ⟨by omega, by omega⟩ | assumption) (by first | exact hI _ _ | exact ⟨by omega, by omega⟩ | assumption) (fun c_19 => ?_) (fun c_19 => ?_)
      · rw [tmCnt, if_neg c_19, Nat.zero_add]
        refine wa_iinc dX8_countIn_25 rfl (by decide) ?_
        refine wa_goto 4 dX8_countIn_28 (by decide) ?_
        first | exact ih1 | exact ih0
      · rw [tmCnt, if_pos c_19, ← Nat.add_assoc]
        refine wa_iinc dX8_countIn_22 rfl (by decide) ?_
        refine wa_iinc dX8_countIn_25 rfl (by decide) ?_
        refine wa_goto 4 dX8_countIn_28 (by decide) ?_
        first | exact ih1 | exact ih0
set_option maxRecDepth 20000 in
theorem c_countIn (hL : LX S) {n : Nat} (hn : I 2 0 = (n : Int)) (hn5 : n ≤ 50) (x : Int) (hx : inR x) : tmC yX8_countIn kX8_countIn 1 0 0 [tR 2, tI x] (S, I, L) (tmF (some (tI ((tmCnt (fun t => I 7 t = x) n 0 : Nat) : Int))) (S, I, L)) := by
  refine tmC.mk (lv := [some (tR 2), some (tI x), none, none]) 2 ⟨rfl, by decide +kernel, by decide⟩ rfl rfl ?_
  refine wa_iconst dX8_countIn_0 ?_
  refine wa_istore_n dX8_countIn_1 (by decide) ?_
  refine wa_iconst dX8_countIn_2 ?_
  refine wa_istore_n dX8_countIn_3 (by decide) ?_
  have lp := countIn_loop (L := L) hL hn hn5 x hx n 0 0 (by omega) (by omega)
  rw [Nat.zero_add] at lp
  exact lp
set_option maxRecDepth 20000 in
theorem countUsers_loop (hL : LX S) {n : Nat} (hn : I 2 0 = (n : Int)) (hn5 : n ≤ 50) (x : Int) (hx : inR x) : ∀ (k t c : Nat), t + k = n → c ≤ t →
    tmW kX8_countUsers 3 0 0 4 [some (tR 2), some (tI x), some (tI c), some (tI t)] [] (S, I, L) (tmF (some (tI ((c + tmCnt (fun t => tmHome n (I 7) (I 4 t) = x ∨ tmHome n (I 7) (I 5 t) = x) k t : Nat) : Int))) (S, I, L)) := by
  intro k
  have o2 := oX2 hL
  have r2_1 := rX2_1 hL
  have r2_2 := rX2_2 hL
  have r2_3 := rX2_3 hL
  have r2_4 := rX2_4 hL
  have r2_5 := rX2_5 hL
  have o4 := oX4 hL
  have o5 := oX5 hL
  have o7 := oX7 hL
  induction k with
  | zero =>
    intro t c ht hc
    refine wt_ir (fun hI => ?_)
    refine wa_iload_n dX8_countUsers_4 rfl ?_
    refine wa_aload_n dX8_countUsers_5 rfl ?_
    refine wt_getI dX8_countUsers_6 FX8_9 (by assumption) ?_
    refine wa_icmp_ge 49 dX8_countUsers_9 (by decide) (by first | exact hI _ _ | exact ⟨by omega, by omega⟩ | assumption) (by first | exact hI _ _ | exact ⟨by omega, by omega⟩ | assumption) (fun c_9 => ?_) (fun c_9 => ?_)
    · refine wa_iload_n dX8_countUsers_49 rfl ?_
      refine wa_ireturn dX8_countUsers_50 rfl ?_
      exact ⟨rfl, rfl⟩
    · omega
  | succ k ih =>
    intro t c ht hc
    refine wt_ir (fun hI => ?_)
    have ih1 := ih (t + 1) (c + 1) (by omega) (by omega)
    have ih0 := ih (t + 1) c (by omega) (by omega)
    have hr : ∀ z, inR (tmHome n (I 7) z) := by intro z; unfold tmHome; split; exact hI _ _; exact ⟨by omega, by omega⟩
    refine wa_iload_n dX8_countUsers_4 rfl ?_
    refine wa_aload_n dX8_countUsers_5 rfl ?_
    refine wt_getI dX8_countUsers_6 FX8_9 (by assumption) ?_
    refine wa_icmp_ge 49 dX8_countUsers_9 (by decide) (by first | exact hI _ _ | exact hr _ | exact ⟨by omega, by omega⟩ | assumption) (by first | exact hI _ _ | exact hr _ | exact ⟨by omega, by omega⟩ | assumption) (fun c_9 => ?_) (fun c_9 => ?_)
    · omega
    · refine wa_aload_n dX8_countUsers_12 rfl ?_
      refine wa_aload_n dX8_countUsers_13 rfl ?_
      refine wt_getR dX8_countUsers_14 FX8_19 (by assumption) (by assumption) ?_
      refine wa_iload_n dX8_countUsers_17 rfl ?_
      refine wt_iald _ dX8_countUsers_18 (by assumption) rfl (by omega) ?_
      refine wa_callVf (ci := 8) dX8_countUsers_19 KX8_homeOf LX8_41 ⟨_, _, rfl, by decide⟩ (by assumption) (c_homeOf hL hn hn5 (I 4 t) (hI _ _)) (by decide) rfl rfl (Nat.le_of_ble_eq_true rfl) rfl rfl ?_
      refine wa_iload_n dX8_countUsers_22 rfl ?_
      refine wa_icmp_eq 40 dX8_countUsers_23 (by decide) (by first | exact hI _ _ | exact hr _ | exact ⟨by omega, by omega⟩ | assumption) (by first | exact hI _ _ | exact hr _ | exact ⟨by omega, by omega⟩ | assumption) (fun c_23 => ?_) (fun c_23 => ?_)
      · rw [tmCnt, if_pos (Or.inl c_23), ← Nat.add_assoc]
        refine wa_iinc dX8_countUsers_40 rfl (by decide) ?_
        refine wa_iinc dX8_countUsers_43 rfl (by decide) ?_
        refine wa_goto 4 dX8_countUsers_46 (by decide) ?_
        first | exact ih1 | exact ih0
      · refine wa_aload_n dX8_countUsers_26 rfl ?_
        refine wa_aload_n dX8_countUsers_27 rfl ?_
        refine wt_getR dX8_countUsers_28 FX8_22 (by assumption) (by assumption) ?_
        refine wa_iload_n dX8_countUsers_31 rfl ?_
        refine wt_iald _ dX8_countUsers_32 (by assumption) rfl (by omega) ?_
        refine wa_callVf (ci := 8) dX8_countUsers_33 KX8_homeOf LX8_41 ⟨_, _, rfl, by decide⟩ (by assumption) (c_homeOf hL hn hn5 (I 5 t) (hI _ _)) (by decide) rfl rfl (Nat.le_of_ble_eq_true rfl) rfl rfl ?_
        refine wa_iload_n dX8_countUsers_36 rfl ?_
        refine wa_icmp_ne 43 dX8_countUsers_37 (by decide) (by first | exact hI _ _ | exact hr _ | exact ⟨by omega, by omega⟩ | assumption) (by first | exact hI _ _ | exact hr _ | exact ⟨by omega, by omega⟩ | assumption) (fun c_37 => ?_) (fun c_37 => ?_)
        · rw [tmCnt, if_neg (fun z => by rcases z with z | z; exact c_23 z; exact c_37 z), Nat.zero_add]
          refine wa_iinc dX8_countUsers_43 rfl (by decide) ?_
          refine wa_goto 4 dX8_countUsers_46 (by decide) ?_
          first | exact ih1 | exact ih0
        · rw [tmCnt, if_pos (Or.inr c_37), ← Nat.add_assoc]
          refine wa_iinc dX8_countUsers_40 rfl (by decide) ?_
          refine wa_iinc dX8_countUsers_43 rfl (by decide) ?_
          refine wa_goto 4 dX8_countUsers_46 (by decide) ?_
          first | exact ih1 | exact ih0
set_option maxRecDepth 20000 in
theorem c_countUsers (hL : LX S) {n : Nat} (hn : I 2 0 = (n : Int)) (hn5 : n ≤ 50) (x : Int) (hx : inR x) : tmC yX8_countUsers kX8_countUsers 3 0 0 [tR 2, tI x] (S, I, L) (tmF (some (tI ((tmCnt (fun t => tmHome n (I 7) (I 4 t) = x ∨ tmHome n (I 7) (I 5 t) = x) n 0 : Nat) : Int))) (S, I, L)) := by
  refine tmC.mk (lv := [some (tR 2), some (tI x), none, none]) 2 ⟨rfl, by decide +kernel, by decide⟩ rfl rfl ?_
  refine wa_iconst dX8_countUsers_0 ?_
  refine wa_istore_n dX8_countUsers_1 (by decide) ?_
  refine wa_iconst dX8_countUsers_2 ?_
  refine wa_istore_n dX8_countUsers_3 (by decide) ?_
  have lp := countUsers_loop (L := L) hL hn hn5 x hx n 0 0 (by omega) (by omega)
  rw [Nat.zero_add] at lp
  exact lp
/-- the least g of those of t .. t + k - 1 with P, and of m -/
def tmLeast (P : Nat → Prop) [DecidablePred P] (g : Nat → Int) : Nat → Nat → Int → Int
  | 0, _, m => m
  | k + 1, t, m => tmLeast P g k (t + 1) (if P t then (if g t < m then g t else m) else m)
set_option maxRecDepth 20000 in
theorem leastGeneration_loop (hL : LX S) {n : Nat} (hn : I 2 0 = (n : Int)) (hn5 : n ≤ 50) (x : Int) (hx : inR x) : ∀ (k t : Nat) (c : Int), t + k = n → inR c →
    tmW kX8_leastGeneration 2 0 0 5 [some (tR 2), some (tI x), some (tI c), some (tI t)] [] (S, I, L) (tmF (some (tI (tmLeast (fun t => I 7 t = x) (I 6) k t c))) (S, I, L)) := by
  intro k
  have o2 := oX2 hL
  have r2_1 := rX2_1 hL
  have r2_2 := rX2_2 hL
  have r2_3 := rX2_3 hL
  have r2_4 := rX2_4 hL
  have r2_5 := rX2_5 hL
  have o6 := oX6 hL
  have o7 := oX7 hL
  induction k with
  | zero =>
    intro t c ht hc
    refine wt_ir (fun hI => ?_)
    refine wa_iload_n dX8_leastGeneration_5 rfl ?_
    refine wa_aload_n dX8_leastGeneration_6 rfl ?_
    refine wt_getI dX8_leastGeneration_7 FX8_9 (by assumption) ?_
    refine wa_icmp_ge 40 dX8_leastGeneration_10 (by decide) (by first | exact hI _ _ | exact ⟨by omega, by omega⟩ | assumption) (by first | exact hI _ _ | exact ⟨by omega, by omega⟩ | assumption) (fun c_10 => ?_) (fun c_10 => ?_)
    · refine wa_iload_n dX8_leastGeneration_40 rfl ?_
      refine wa_ireturn dX8_leastGeneration_41 rfl ?_
      exact ⟨rfl, rfl⟩
    · omega
  | succ k ih =>
    intro t c ht hc
    refine wt_ir (fun hI => ?_)
    have ih1 := ih (t + 1) (if I 6 t < c then I 6 t else c) (by omega) (by split; exact hI _ _; exact hc)
    have ih0 := ih (t + 1) c (by omega) hc
    refine wa_iload_n dX8_leastGeneration_5 rfl ?_
    refine wa_aload_n dX8_leastGeneration_6 rfl ?_
    refine wt_getI dX8_leastGeneration_7 FX8_9 (by assumption) ?_
    refine wa_icmp_ge 40 dX8_leastGeneration_10 (by decide) (by first | exact hI _ _ | exact ⟨by omega, by omega⟩ | assumption) (by first | exact hI _ _ | exact ⟨by omega, by omega⟩ | assumption) (fun c_10 => ?_) (fun c_10 => ?_)
    · omega
    · refine wa_aload_n dX8_leastGeneration_13 rfl ?_
      refine wt_getR dX8_leastGeneration_14 FX8_28 (by assumption) (by assumption) ?_
      refine wa_iload_n dX8_leastGeneration_17 rfl ?_
      refine wt_iald _ dX8_leastGeneration_18 (by assumption) rfl (by omega) ?_
      refine wa_iload_n dX8_leastGeneration_19 rfl ?_
      refine wa_icmp_ne 34 dX8_leastGeneration_20 (by decide) (by first | exact hI _ _ | exact ⟨by omega, by omega⟩ | assumption) (by first | exact hI _ _ | exact ⟨by omega, by omega⟩ | assumption) (fun c_20 => ?_) (fun c_20 => ?_)
      · rw [tmLeast, if_neg c_20]
        refine wa_iinc dX8_leastGeneration_34 rfl (by decide) ?_
        refine wa_goto 5 dX8_leastGeneration_37 (by decide) ?_
        first | exact ih1 | exact ih0
      · rw [tmLeast, if_pos c_20]
        refine wa_iload_n dX8_leastGeneration_23 rfl ?_
        refine wa_aload_n dX8_leastGeneration_24 rfl ?_
        refine wt_getR dX8_leastGeneration_25 FX8_25 (by assumption) (by assumption) ?_
        refine wa_iload_n dX8_leastGeneration_28 rfl ?_
        refine wt_iald _ dX8_leastGeneration_29 (by assumption) rfl (by omega) ?_
        refine wa_min dX8_leastGeneration_30 LX8_45 (by decide) (Nat.le_of_ble_eq_true rfl) (by first | exact hI _ _ | exact ⟨by omega, by omega⟩ | assumption) (by first | exact hI _ _ | exact ⟨by omega, by omega⟩ | assumption) ?_
        refine wa_istore_n dX8_leastGeneration_33 (by decide) ?_
        refine wa_iinc dX8_leastGeneration_34 rfl (by decide) ?_
        refine wa_goto 5 dX8_leastGeneration_37 (by decide) ?_
        first | exact ih1 | exact ih0
set_option maxRecDepth 20000 in
theorem c_leastGeneration (hL : LX S) {n : Nat} (hn : I 2 0 = (n : Int)) (hn5 : n ≤ 50) (x : Int) (hx : inR x) : tmC yX8_leastGeneration kX8_leastGeneration 2 0 0 [tR 2, tI x] (S, I, L) (tmF (some (tI (tmLeast (fun t => I 7 t = x) (I 6) n 0 9))) (S, I, L)) := by
  refine tmC.mk (lv := [some (tR 2), some (tI x), none, none]) 2 ⟨rfl, by decide +kernel, by decide⟩ rfl rfl ?_
  refine wa_bipush dX8_leastGeneration_0 rfl ?_
  refine wa_istore_n dX8_leastGeneration_2 (by decide) ?_
  refine wa_iconst dX8_leastGeneration_3 ?_
  refine wa_istore_n dX8_leastGeneration_4 (by decide) ?_
  exact leastGeneration_loop hL hn hn5 x hx n 0 9 (by omega) ⟨by omega, by omega⟩
end T12
