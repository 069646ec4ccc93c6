/-! ===== 30: TERMS that come (no machine); class Builder (140: letter 141, made 142) ===== -/
/-- TERMS: how many, SIGNS, PARTS, GENERATIONS, homes -/
abbrev TS : Type := Nat × (Nat → Int) × (Nat → Int) × (Nat → Int) × (Nat → Int) × (Nat → Int)
def tsLk (X : TS) (s a b : Int) : Int := tmScan (fun t => X.2.1 t = s ∧ X.2.2.1 t = a ∧ X.2.2.2.1 t = b) X.1 0
def tsAdd (X : TS) (s a b g : Int) : TS := (X.1 + 1, va_up X.2.1 X.1 s, va_up X.2.2.1 X.1 a, va_up X.2.2.2.1 X.1 b, va_up X.2.2.2.2.1 X.1 g, va_up X.2.2.2.2.2 X.1 (X.1 : Int))
/-- a TERM comes, if it is not there; none: no room -/
def tsCome (X : TS) (s a b g : Int) : Option (Int × TS) := if tsLk X s a b = -1 then (if X.1 < 50 then some ((X.1 : Int), tsAdd X s a b g) else none) else some (tsLk X s a b, X)
theorem tmScan_spec {P : Nat → Prop} [DecidablePred P] : ∀ (k t : Nat), (tmScan P k t = -1 ∧ ∀ j, t ≤ j → j < t + k → ¬ P j) ∨ ∃ j : Nat, tmScan P k t = (j : Int) ∧ t ≤ j ∧ j < t + k ∧ P j ∧ ∀ i, t ≤ i → i < j → ¬ P i := by
  intro k
  induction k with
  | zero => intro t; left; exact ⟨rfl, fun j a b => by omega⟩
  | succ k ih =>
    intro t
    simp only [tmScan]
    by_cases c : P t
    · right; rw [if_pos c]; exact ⟨t, rfl, by omega, by omega, c, fun i a b => by omega⟩
    · rw [if_neg c]
      rcases ih (t + 1) with ⟨e, h⟩ | ⟨j, e, h1, h2, h3, h4⟩
      · left
        refine ⟨e, fun j a b => ?_⟩
        by_cases z : j = t
        · subst z; exact c
        · exact h j (by omega) (by omega)
      · right
        refine ⟨j, e, by omega, by omega, h3, fun i a b => ?_⟩
        by_cases z : i = t
        · subst z; exact c
        · exact h4 i (by omega) b
abbrev tsOf (I : Nat → Nat → Int) (n : Nat) : TS := (n, I 3, I 4, I 5, I 6, I 7)
/-- the rows that building changes -/
def BdFr (I I' : Nat → Nat → Int) : Prop := ∀ a, a ≠ 2 → a ≠ 3 → a ≠ 4 → a ≠ 5 → a ≠ 6 → a ≠ 7 → a ≠ 142 → I' a = I a
section S30
variable {S : tmS} {I : Nat → Nat → Int} {L : Nat → Nat → Int64}
set_option maxRecDepth 20000 in
theorem c_madeOf (hL : LX S) (x : Int) (hx : inR x) : tmC yX0_madeOf kX0_madeOf 1 0 0 [tR 140, tI x] (S, I, L) (tmF (some (tI (svOf (I 142) 120 (-1) x))) (S, I, L)) := by
  refine tmC.mk (lv := [some (tR 140), some (tI x)]) 0 ⟨rfl, by decide +kernel, by decide⟩ rfl rfl ?_
  refine wt_ir (fun hI => ?_)
  have o140 := oX140 hL
  have r140_0 := rX140_0 hL
  have r140_1 := rX140_1 hL
  have r140_2 := rX140_2 hL
  have o142 := oX142 hL
  refine wa_iload_n dX0_madeOf_0 rfl ?_
  refine wa_if_lt 19 dX0_madeOf_1 (by decide) (by first | exact hI _ _ | exact ⟨by omega, by omega⟩ | assumption) (fun c_1 => ?_) (fun c_1 => ?_)
  · refine wa_iconst dX0_madeOf_19 ?_
    refine wa_ireturn dX0_madeOf_20 rfl ?_
    exact ⟨by first | rw [svOf, if_pos (by omega)] | rw [svOf, if_neg (by omega)], rfl⟩
  · refine wa_iload_n dX0_madeOf_4 rfl ?_
    refine wa_bipush dX0_madeOf_5 rfl ?_
    refine wa_icmp_ge 19 dX0_madeOf_7 (by decide) (by first | exact hI _ _ | exact ⟨by omega, by omega⟩ | assumption) (by first | exact hI _ _ | exact ⟨by omega, by omega⟩ | assumption) (fun c_7 => ?_) (fun c_7 => ?_)
    · refine wa_iconst dX0_madeOf_19 ?_
      refine wa_ireturn dX0_madeOf_20 rfl ?_
      exact ⟨by first | rw [svOf, if_pos (by omega)] | rw [svOf, if_neg (by omega)], rfl⟩
    · refine wa_aload_n dX0_madeOf_10 rfl ?_
      refine wt_getR dX0_madeOf_11 FX0_15 (by assumption) (by assumption) ?_
      refine wa_iload_n dX0_madeOf_14 rfl ?_
      refine wt_iald x.toNat dX0_madeOf_15 (by assumption) (by omega) (by omega) ?_
      refine wa_goto 20 dX0_madeOf_16 (by decide) ?_
      refine wa_ireturn dX0_madeOf_20 rfl ?_
      exact ⟨by first | rw [svOf, if_pos (by omega)] | rw [svOf, if_neg (by omega)], rfl⟩
set_option maxRecDepth 20000 in
theorem c_termOfL (hL : LX S) {p m : Nat} (hp : LPat S p m) {i : Nat} (hi : i < m) (g : Int) (h7 : 7 ≤ I (p + 1) i ∧ I (p + 1) i ≤ 9) : tmC yX0_termOf kX0_termOf 2 0 0 [tR 140, tR p, tI i, tI g] (S, I, L) (tmF (some (tI (I 141 (I (p + 1) i - 7).toNat))) (S, I, L)) := by
  refine tmC.mk (lv := [some (tR 140), some (tR p), some (tI i), some (tI g), none, none, none, none]) 4 ⟨rfl, by decide +kernel, by decide⟩ rfl rfl ?_
  obtain ⟨a0, a1, a2, a3, a4, b1', b2', b3', b4'⟩ := hp
  have o140 := oX140 hL
  have r140_0 := rX140_0 hL
  have r140_1 := rX140_1 hL
  have r140_2 := rX140_2 hL
  have o141 := oX141 hL
  refine wa_aload_n dX0_termOf_0 rfl ?_
  refine wt_getR dX0_termOf_1 FX0_35 (by assumption) (by assumption) ?_
  refine wa_iload_n dX0_termOf_4 rfl ?_
  refine wt_iald _ dX0_termOf_5 (by assumption) rfl (by omega) ?_
  refine wa_istore dX0_termOf_6 (by decide) ?_
  refine wa_iload dX0_termOf_8 rfl ?_
  refine wa_bipush dX0_termOf_10 rfl ?_
  refine wa_icmp_lt 37 dX0_termOf_12 (by decide) (by exact ⟨by omega, by omega⟩) (by exact ⟨by omega, by omega⟩) (fun c_12 => ?_) (fun c_12 => ?_)
  · omega
  · refine wa_iload dX0_termOf_15 rfl ?_
    refine wa_bipush dX0_termOf_17 rfl ?_
    refine wa_icmp_ge 35 dX0_termOf_19 (by decide) (by exact ⟨by omega, by omega⟩) (by exact ⟨by omega, by omega⟩) (fun c_19 => ?_) (fun c_19 => ?_)
    · omega
    · refine wa_aload_n dX0_termOf_22 rfl ?_
      refine wt_getR dX0_termOf_23 FX0_9 (by assumption) (by assumption) ?_
      refine wa_iload dX0_termOf_26 rfl ?_
      refine wa_bipush dX0_termOf_28 rfl ?_
      refine wa_isub dX0_termOf_30 ?_
      refine wt_iald (I (p + 1) i - 7).toNat dX0_termOf_31 (by assumption) (by omega) (by omega) ?_
      refine wa_goto 36 dX0_termOf_32 (by decide) ?_
      refine wa_ireturn dX0_termOf_36 rfl ?_
      exact ⟨rfl, rfl⟩
set_option maxRecDepth 20000 in
set_option maxHeartbeats 1000000 in
theorem c_termOfN (hL : LX S) {p m : Nat} (hp : LPat S p m) {i : Nat} (hi : i < m) (hp5 : 150 ≤ p) (g : Int) (hg : inR g) (h7 : 0 ≤ I (p + 1) i ∧ I (p + 1) i < 7) {n : Nat} (hn : I 2 0 = (n : Int)) (hn5 : n ≤ 50) : tmC yX0_termOf kX0_termOf 2 0 0 [tR 140, tR p, tI i, tI g] (S, I, L) (fun r h' => ∃ I', h' = (S, I', L) ∧ (∀ a, a ≠ 2 → a ≠ 3 → a ≠ 4 → a ≠ 5 → a ≠ 6 → a ≠ 7 → I' a = I a) ∧
    match tsCome (tsOf I n) (I (p + 1) i) (svOf (I 142) 120 (-1) (I (p + 2) i)) (svOf (I 142) 120 (-1) (I (p + 3) i)) g with
    | none => r = some (tI (-1)) ∧ I' = I
    | some (t, X) => r = some (tI t) ∧ I' 2 0 = (X.1 : Int) ∧ tsOf I' X.1 = X) := by
  refine tmC.mk (lv := [some (tR 140), some (tR p), some (tI i), some (tI g), none, none, none, none]) 4 ⟨rfl, by decide +kernel, by decide⟩ rfl rfl ?_
  obtain ⟨a0, a1, a2, a3, a4, b1', b2', b3', b4'⟩ := hp
  have o140 := oX140 hL
  have r140_0 := rX140_0 hL
  have r140_1 := rX140_1 hL
  have r140_2 := rX140_2 hL
  have o2 := oX2 hL
  have r2_1 := rX2_1 hL
  have r2_2 := rX2_2 hL
  have r2_3 := rX2_3 hL
  have r2_4 := rX2_4 hL
  have r2_5 := rX2_5 hL
  refine wt_ir (fun hI => ?_)
  have r1 : inR (svOf (I 142) 120 (-1) (I (p + 2) i)) := by unfold svOf; split; exact hI _ _; exact ⟨by omega, by omega⟩
  have r2 : inR (svOf (I 142) 120 (-1) (I (p + 3) i)) := by unfold svOf; split; exact hI _ _; exact ⟨by omega, by omega⟩
  have hlk : tmScan (fun t => I 3 t = I (p + 1) i ∧ I 4 t = svOf (I 142) 120 (-1) (I (p + 2) i) ∧ I 5 t = svOf (I 142) 120 (-1) (I (p + 3) i)) n 0 = tsLk (tsOf I n) (I (p + 1) i) (svOf (I 142) 120 (-1) (I (p + 2) i)) (svOf (I 142) 120 (-1) (I (p + 3) i)) := rfl
  have lkr : inR (tsLk (tsOf I n) (I (p + 1) i) (svOf (I 142) 120 (-1) (I (p + 2) i)) (svOf (I 142) 120 (-1) (I (p + 3) i))) := by
    rw [← hlk]
    rcases tmScan_spec (P := fun t => I 3 t = I (p + 1) i ∧ I 4 t = svOf (I 142) 120 (-1) (I (p + 2) i) ∧ I 5 t = svOf (I 142) 120 (-1) (I (p + 3) i)) n 0 with ⟨e, -⟩ | ⟨j, e, e1, e2, -⟩
    · rw [e]; exact ⟨by omega, by omega⟩
    · rw [e]; exact ⟨by omega, by omega⟩
  generalize hA : svOf (I 142) 120 (-1) (I (p + 2) i) = A at *
  generalize hB : svOf (I 142) 120 (-1) (I (p + 3) i) = B at *
  by_cases hroom : n < 50
  · refine wa_aload_n dX0_termOf_0 rfl ?_
    refine wt_getR dX0_termOf_1 FX0_35 (by assumption) (by assumption) ?_
    refine wa_iload_n dX0_termOf_4 rfl ?_
    refine wt_iald _ dX0_termOf_5 (by assumption) rfl (by omega) ?_
    refine wa_istore dX0_termOf_6 (by decide) ?_
    refine wa_iload dX0_termOf_8 rfl ?_
    refine wa_bipush dX0_termOf_10 rfl ?_
    refine wa_icmp_lt 37 dX0_termOf_12 (by decide) (by first | exact hI _ _ | exact lkr | exact ⟨by omega, by omega⟩) (by first | exact hI _ _ | exact lkr | exact ⟨by omega, by omega⟩) (fun c_12 => ?_) (fun c_12 => ?_)
    · refine wa_aload_n dX0_termOf_37 rfl ?_
      refine wa_aload_n dX0_termOf_38 rfl ?_
      refine wt_getR dX0_termOf_39 FX0_38 (by assumption) (by assumption) ?_
      refine wa_iload_n dX0_termOf_42 rfl ?_
      refine wt_iald _ dX0_termOf_43 (by assumption) rfl (by omega) ?_
      refine wa_callVf (ci := 0) dX0_termOf_44 KX0_madeOf LX0_41 ⟨_, _, rfl, by decide⟩ o140 (by have := c_madeOf (I := I) (L := L) hL (I (p + 2) i) (hI _ _); rw [hA] at this; exact this) (by decide) rfl rfl (Nat.le_of_ble_eq_true rfl) rfl rfl ?_
      refine wa_istore dX0_termOf_47 (by decide) ?_
      refine wa_aload_n dX0_termOf_49 rfl ?_
      refine wa_aload_n dX0_termOf_50 rfl ?_
      refine wt_getR dX0_termOf_51 FX0_45 (by assumption) (by assumption) ?_
      refine wa_iload_n dX0_termOf_54 rfl ?_
      refine wt_iald _ dX0_termOf_55 (by assumption) rfl (by omega) ?_
      refine wa_callVf (ci := 0) dX0_termOf_56 KX0_madeOf LX0_41 ⟨_, _, rfl, by decide⟩ o140 (by have := c_madeOf (I := I) (L := L) hL (I (p + 3) i) (hI _ _); rw [hB] at this; exact this) (by decide) rfl rfl (Nat.le_of_ble_eq_true rfl) rfl rfl ?_
      refine wa_istore dX0_termOf_59 (by decide) ?_
      refine wa_aload_n dX0_termOf_61 rfl ?_
      refine wt_getR dX0_termOf_62 FX0_18 (by assumption) (by assumption) ?_
      refine wa_iload dX0_termOf_65 rfl ?_
      refine wa_iload dX0_termOf_67 rfl ?_
      refine wa_iload dX0_termOf_69 rfl ?_
      refine wa_callVf (ci := 8) dX0_termOf_71 KX8_lookUp LX0_48 ⟨_, _, rfl, by decide⟩ o2 (by have := c_lookUp (I := I) (L := L) hL hn hn5 (I (p + 1) i) A B (hI _ _) r1 r2; rw [hlk] at this; exact this) (by decide) rfl rfl (Nat.le_of_ble_eq_true rfl) rfl rfl ?_
      refine wa_istore dX0_termOf_74 (by decide) ?_
      refine wa_iload dX0_termOf_76 rfl ?_
      refine wa_iconst dX0_termOf_78 ?_
      refine wa_icmp_ne 99 dX0_termOf_79 (by decide) (by first | exact hI _ _ | exact lkr | exact ⟨by omega, by omega⟩) (by first | exact hI _ _ | exact lkr | exact ⟨by omega, by omega⟩) (fun c_79 => ?_) (fun c_79 => ?_)
      · have ec : tsCome (tsOf I n) (I (p + 1) i) A B g = some (tsLk (tsOf I n) (I (p + 1) i) A B, tsOf I n) := by unfold tsCome; rw [if_neg c_79]
        refine wa_iload dX0_termOf_99 rfl ?_
        refine wa_ireturn dX0_termOf_101 rfl ?_
        rw [ec]
        first
          | exact ⟨I, rfl, fun _ _ _ _ _ _ _ => rfl, rfl, hn, rfl⟩
          | refine ⟨_, rfl, fun a a1 a2 a3 a4 a5 a6 => ?_, rfl, ?_, ?_⟩
            · unfold tmAdd; simp (disch := assumption) only [vup_n]
            · unfold tmAdd; rw [vup_s, vup_s]; rfl
            · unfold tmAdd tsAdd; simp only [tsOf, vup_if, Nat.reduceEqDiff, ↓reduceIte]
      · have ec : tsCome (tsOf I n) (I (p + 1) i) A B g = some ((n : Int), tsAdd (tsOf I n) (I (p + 1) i) A B g) := by unfold tsCome; rw [if_pos c_79, if_pos hroom]
        refine wa_aload_n dX0_termOf_82 rfl ?_
        refine wt_getR dX0_termOf_83 FX0_18 (by assumption) (by assumption) ?_
        refine wa_iload dX0_termOf_86 rfl ?_
        refine wa_iload dX0_termOf_88 rfl ?_
        refine wa_iload dX0_termOf_90 rfl ?_
        refine wa_iload_n dX0_termOf_92 rfl ?_
        refine wa_callVf (ci := 8) dX0_termOf_93 KX8_add LX0_52 ⟨_, _, rfl, by decide⟩ o2 (c_add hL hn hroom (I (p + 1) i) A B g (hI _ _) r1 r2 hg) (by decide) rfl rfl (Nat.le_of_ble_eq_true rfl) rfl rfl ?_
        refine wa_goto 101 dX0_termOf_96 (by decide) ?_
        refine wa_ireturn dX0_termOf_101 rfl ?_
        rw [ec]
        first
          | exact ⟨I, rfl, fun _ _ _ _ _ _ _ => rfl, rfl, hn, rfl⟩
          | refine ⟨_, rfl, fun a a1 a2 a3 a4 a5 a6 => ?_, rfl, ?_, ?_⟩
            · unfold tmAdd; simp (disch := assumption) only [vup_n]
            · unfold tmAdd; rw [vup_s, vup_s]; rfl
            · unfold tmAdd tsAdd; simp only [tsOf, vup_if, Nat.reduceEqDiff, ↓reduceIte]
    · omega
  · obtain rfl : n = 50 := by omega
    refine wa_aload_n dX0_termOf_0 rfl ?_
    refine wt_getR dX0_termOf_1 FX0_35 (by assumption) (by assumption) ?_
    refine wa_iload_n dX0_termOf_4 rfl ?_
    refine wt_iald _ dX0_termOf_5 (by assumption) rfl (by omega) ?_
    refine wa_istore dX0_termOf_6 (by decide) ?_
    refine wa_iload dX0_termOf_8 rfl ?_
    refine wa_bipush dX0_termOf_10 rfl ?_
    refine wa_icmp_lt 37 dX0_termOf_12 (by decide) (by first | exact hI _ _ | exact lkr | exact ⟨by omega, by omega⟩) (by first | exact hI _ _ | exact lkr | exact ⟨by omega, by omega⟩) (fun c_12 => ?_) (fun c_12 => ?_)
    · refine wa_aload_n dX0_termOf_37 rfl ?_
      refine wa_aload_n dX0_termOf_38 rfl ?_
      refine wt_getR dX0_termOf_39 FX0_38 (by assumption) (by assumption) ?_
      refine wa_iload_n dX0_termOf_42 rfl ?_
      refine wt_iald _ dX0_termOf_43 (by assumption) rfl (by omega) ?_
      refine wa_callVf (ci := 0) dX0_termOf_44 KX0_madeOf LX0_41 ⟨_, _, rfl, by decide⟩ o140 (by have := c_madeOf (I := I) (L := L) hL (I (p + 2) i) (hI _ _); rw [hA] at this; exact this) (by decide) rfl rfl (Nat.le_of_ble_eq_true rfl) rfl rfl ?_
      refine wa_istore dX0_termOf_47 (by decide) ?_
      refine wa_aload_n dX0_termOf_49 rfl ?_
      refine wa_aload_n dX0_termOf_50 rfl ?_
      refine wt_getR dX0_termOf_51 FX0_45 (by assumption) (by assumption) ?_
      refine wa_iload_n dX0_termOf_54 rfl ?_
      refine wt_iald _ dX0_termOf_55 (by assumption) rfl (by omega) ?_
      refine wa_callVf (ci := 0) dX0_termOf_56 KX0_madeOf LX0_41 ⟨_, _, rfl, by decide⟩ o140 (by have := c_madeOf (I := I) (L := L) hL (I (p + 3) i) (hI _ _); rw [hB] at this; exact this) (by decide) rfl rfl (Nat.le_of_ble_eq_true rfl) rfl rfl ?_
      refine wa_istore dX0_termOf_59 (by decide) ?_
      refine wa_aload_n dX0_termOf_61 rfl ?_
      refine wt_getR dX0_termOf_62 FX0_18 (by assumption) (by assumption) ?_
      refine wa_iload dX0_termOf_65 rfl ?_
      refine wa_iload dX0_termOf_67 rfl ?_
      refine wa_iload dX0_termOf_69 rfl ?_
      refine wa_callVf (ci := 8) dX0_termOf_71 KX8_lookUp LX0_48 ⟨_, _, rfl, by decide⟩ o2 (by have := c_lookUp (I := I) (L := L) hL hn hn5 (I (p + 1) i) A B (hI _ _) r1 r2; rw [hlk] at this; exact this) (by decide) rfl rfl (Nat.le_of_ble_eq_true rfl) rfl rfl ?_
      refine wa_istore dX0_termOf_74 (by decide) ?_
      refine wa_iload dX0_termOf_76 rfl ?_
      refine wa_iconst dX0_termOf_78 ?_
      refine wa_icmp_ne 99 dX0_termOf_79 (by decide) (by first | exact hI _ _ | exact lkr | exact ⟨by omega, by omega⟩) (by first | exact hI _ _ | exact lkr | exact ⟨by omega, by omega⟩) (fun c_79 => ?_) (fun c_79 => ?_)
      · have ec : tsCome (tsOf I 50) (I (p + 1) i) A B g = some (tsLk (tsOf I 50) (I (p + 1) i) A B, tsOf I 50) := by unfold tsCome; rw [if_neg c_79]
        refine wa_iload dX0_termOf_99 rfl ?_
        refine wa_ireturn dX0_termOf_101 rfl ?_
        rw [ec]
        first
          | exact ⟨I, rfl, fun _ _ _ _ _ _ _ => rfl, rfl, hn, rfl⟩
          | exact ⟨I, rfl, fun _ _ _ _ _ _ _ => rfl, rfl, rfl⟩
      · have ec : tsCome (tsOf I 50) (I (p + 1) i) A B g = none := by unfold tsCome; rw [if_pos c_79, if_neg (show ¬ 50 < 50 by decide)]
        refine wa_aload_n dX0_termOf_82 rfl ?_
        refine wt_getR dX0_termOf_83 FX0_18 (by assumption) (by assumption) ?_
        refine wa_iload dX0_termOf_86 rfl ?_
        refine wa_iload dX0_termOf_88 rfl ?_
        refine wa_iload dX0_termOf_90 rfl ?_
        refine wa_iload_n dX0_termOf_92 rfl ?_
        refine wa_callVf (ci := 8) dX0_termOf_93 KX8_add LX0_52 ⟨_, _, rfl, by decide⟩ o2 (c_addFull hL hn (I (p + 1) i) A B g) (by decide) rfl rfl (Nat.le_of_ble_eq_true rfl) rfl rfl ?_
        refine wa_goto 101 dX0_termOf_96 (by decide) ?_
        refine wa_ireturn dX0_termOf_101 rfl ?_
        rw [ec]
        first
          | exact ⟨I, rfl, fun _ _ _ _ _ _ _ => rfl, rfl, hn, rfl⟩
          | exact ⟨I, rfl, fun _ _ _ _ _ _ _ => rfl, rfl, rfl⟩
    · omega
/-- some nodes come as TERMS, one by one -/
def bdF (psg pon pot lt : Nat → Int) (g : Int) : Nat → Nat → TS → (Nat → Int) → Option (TS × (Nat → Int))
  | 0, _, X, md => some (X, md)
  | k + 1, i, X, md => if 7 ≤ psg i then bdF psg pon pot lt g k (i + 1) X (va_up md i (lt (psg i - 7).toNat)) else
    match tsCome X (psg i) (svOf md 120 (-1) (pon i)) (svOf md 120 (-1) (pot i)) g with
    | none => none
    | some (t, X') => bdF psg pon pot lt g k (i + 1) X' (va_up md i t)
theorem tsLk_in (X : TS) (s a b : Int) : tsLk X s a b = -1 ∨ (0 ≤ tsLk X s a b ∧ tsLk X s a b < X.1) := by
  unfold tsLk
  rcases tmScan_spec (P := fun t => X.2.1 t = s ∧ X.2.2.1 t = a ∧ X.2.2.2.1 t = b) X.1 0 with ⟨e, -⟩ | ⟨j, e, e1, e2, -⟩
  · exact Or.inl e
  · right; rw [e]; omega
theorem tsCome_in {X X' : TS} {s a b g t : Int} (h : tsCome X s a b g = some (t, X')) : X.1 ≤ X'.1 ∧ (X.1 ≤ 50 → X'.1 ≤ 50) ∧ 0 ≤ t ∧ t < X'.1 ∧ (∀ j, j < X.1 → X'.2.1 j = X.2.1 j ∧ X'.2.2.1 j = X.2.2.1 j ∧ X'.2.2.2.1 j = X.2.2.2.1 j ∧ X'.2.2.2.2.1 j = X.2.2.2.2.1 j ∧ X'.2.2.2.2.2 j = X.2.2.2.2.2 j) := by
  unfold tsCome at h
  split at h
  · split at h
    · simp only [Option.some.injEq, Prod.mk.injEq] at h
      obtain ⟨rfl, rfl⟩ := h
      refine ⟨by simp [tsAdd], fun _ => by simp [tsAdd]; omega, by omega, by simp [tsAdd]; omega, fun j hj => ?_⟩
      simp (disch := omega) only [tsAdd, vup_n, and_self]
    · cases h
  · next hne =>
    simp only [Option.some.injEq, Prod.mk.injEq] at h
    obtain ⟨rfl, rfl⟩ := h
    have := tsLk_in X s a b
    refine ⟨Nat.le_refl _, fun z => z, by omega, by omega, fun j _ => ⟨rfl, rfl, rfl, rfl, rfl⟩⟩
/-- what build leaves: all came (X, made md), or none -/
abbrev BdPost (S : tmS) (I : Nat → Nat → Int) (L : Nat → Nat → Int64) (n : Nat) (last : Nat) (res : Option (TS × (Nat → Int))) : Option tmV → tmH → Prop := fun r h' => ∃ I', h' = (S, I', L) ∧ BdFr I I' ∧
  match res with
  | none => r = some (tI (-1)) ∧ I' 2 0 = (n : Int) ∧ ∀ a, 3 ≤ a → a ≤ 7 → ∀ t, t < n → I' a t = I a t
  | some (X, md) => r = some (tI (md last)) ∧ I' 2 0 = (X.1 : Int) ∧ tsOf I' X.1 = X ∧ I' 142 = md
set_option maxRecDepth 20000 in
set_option maxHeartbeats 2000000 in
theorem build_loop (hL : LX S) {p m sz : Nat} (hp : LPat S p m) (hp5 : 150 ≤ p) (hs : I p 0 = (sz : Int)) (hsm : sz ≤ m) (hm : m ≤ 120) (hw : WFN sz (I (p + 1)) (I (p + 2)) (I (p + 3))) (fr to n : Nat) (hto : to ≤ sz) (hfr : fr < to) (g : Int) (hg : inR g) (hn5 : n ≤ 50) (hlt : ∀ i, fr ≤ i → i < to → 7 ≤ I (p + 1) i → 0 ≤ I 141 (I (p + 1) i - 7).toNat) :
    ∀ (k i : Nat) (I' : Nat → Nat → Int) (n' : Nat) (x : Int) (y : Option tmV), i + k = to → fr ≤ i → (fr < i → x = I' 142 (i - 1)) → BdFr I I' → I' 2 0 = (n' : Int) → n' ≤ 50 → n ≤ n' → (∀ a, 3 ≤ a → a ≤ 7 → ∀ t, t < n → I' a t = I a t) →
    tmW kX0_build 3 0 0 15 [some (tR 140), some (tR p), some (tI fr), some (tI to), some (tI g), some (tI n), some (tI x), some (tI i)] [] (S, I', L) (BdPost S I L n (to - 1) (bdF (I (p + 1)) (I (p + 2)) (I (p + 3)) (I 141) g k i (tsOf I' n') (I' 142))) := by
  intro k
  have hp0 := hp
  obtain ⟨a0, a1, a2, a3, a4, b1', b2', b3', b4'⟩ := hp
  have o140 := oX140 hL
  have r140_0 := rX140_0 hL
  have r140_1 := rX140_1 hL
  have r140_2 := rX140_2 hL
  have o142 := oX142 hL
  have o2 := oX2 hL
  have r2_1 := rX2_1 hL
  have r2_2 := rX2_2 hL
  have r2_3 := rX2_3 hL
  have r2_4 := rX2_4 hL
  have r2_5 := rX2_5 hL
  induction k with
  | zero =>
    intro i I' n' x y hi hfi hx hf hn' hn'5 hnn hrow
    have fp := hf p (by omega) (by omega) (by omega) (by omega) (by omega) (by omega) (by omega)
    refine wt_ir (fun hI => ?_)
    refine wa_iload dX0_build_15 rfl ?_
    refine wa_iload_n dX0_build_17 rfl ?_
    refine wa_icmp_ge 80 dX0_build_18 (by decide) (by exact ⟨by omega, by omega⟩) (by exact ⟨by omega, by omega⟩) (fun c_18 => ?_) (fun c_18 => ?_)
    · refine wa_iload dX0_build_80 rfl ?_
      refine wa_ireturn dX0_build_82 rfl ?_
      refine ⟨I', rfl, hf, ?_, hn', rfl, rfl⟩
      rw [hx (by omega), show i - 1 = to - 1 by omega]
    · omega
  | succ k ih =>
    intro i I' n' x y hi hfi hx hf hn' hn'5 hnn hrow
    have fp := hf p (by omega) (by omega) (by omega) (by omega) (by omega) (by omega) (by omega)
    have fp1 := hf (p + 1) (by omega) (by omega) (by omega) (by omega) (by omega) (by omega) (by omega)
    have fp2 := hf (p + 2) (by omega) (by omega) (by omega) (by omega) (by omega) (by omega) (by omega)
    have fp3 := hf (p + 3) (by omega) (by omega) (by omega) (by omega) (by omega) (by omega) (by omega)
    have f141 := hf 141 (by decide) (by decide) (by decide) (by decide) (by decide) (by decide) (by decide)
    have w := hw i (by omega)
    refine wt_ir (fun hI => ?_)
    by_cases h7 : 7 ≤ I (p + 1) i
    · have hle := hlt i hfi (by omega) h7
      have hir : inR (I 141 (I (p + 1) i - 7).toNat) := by rw [← f141]; exact hI _ _
      have eb : bdF (I (p + 1)) (I (p + 2)) (I (p + 3)) (I 141) g (k + 1) i (tsOf I' n') (I' 142) = bdF (I (p + 1)) (I (p + 2)) (I (p + 3)) (I 141) g k (i + 1) (tsOf I' n') (va_up (I' 142) i (I 141 (I (p + 1) i - 7).toNat)) := by simp only [bdF, h7, if_true]
      rw [eb]
      have nx := ih (i + 1) (va_up I' 142 (va_up (I' 142) i (I 141 (I (p + 1) i - 7).toNat))) n' (I 141 (I (p + 1) i - 7).toNat) none (by omega) (by omega) (fun _ => by rw [vup_s, show i + 1 - 1 = i by omega, vup_s]) (fun a c1 c2 c3 c4 c5 c6 c7 => by rw [vup_n c7]; exact hf a c1 c2 c3 c4 c5 c6 c7) (by rw [vup_n (by decide)]; exact hn') hn'5 hnn (fun a c1 c2 t ht => by rw [vup_n (by omega)]; exact hrow a c1 c2 t ht)
      simp only [tsOf, vup_if, Nat.reduceEqDiff, ↓reduceIte] at nx
      refine wa_iload dX0_build_15 rfl ?_
      refine wa_iload_n dX0_build_17 rfl ?_
      refine wa_icmp_ge 80 dX0_build_18 (by decide) (by first | exact hir | exact ⟨by omega, by omega⟩) (by first | exact hir | exact ⟨by omega, by omega⟩) (fun c_18 => ?_) (fun c_18 => ?_)
      · omega
      · refine wa_iload dX0_build_21 rfl ?_
        refine wa_aload_n dX0_build_23 rfl ?_
        refine wt_getI dX0_build_24 FX0_28 (by assumption) ?_
        try rw [fp, hs]
        refine wa_icmp_ge 80 dX0_build_27 (by decide) (by first | exact hir | exact ⟨by omega, by omega⟩) (by first | exact hir | exact ⟨by omega, by omega⟩) (fun c_27 => ?_) (fun c_27 => ?_)
        · omega
        · refine wa_iload dX0_build_30 rfl ?_
          refine wa_bipush dX0_build_32 rfl ?_
          refine wa_icmp_ge 80 dX0_build_34 (by decide) (by first | exact hir | exact ⟨by omega, by omega⟩) (by first | exact hir | exact ⟨by omega, by omega⟩) (fun c_34 => ?_) (fun c_34 => ?_)
          · omega
          · refine wa_aload_n dX0_build_37 rfl ?_
            refine wa_aload_n dX0_build_38 rfl ?_
            refine wa_iload dX0_build_39 rfl ?_
            refine wa_iload dX0_build_41 rfl ?_
            refine wa_callVf (ci := 0) dX0_build_43 KX0_termOf LX0_31 ⟨_, _, rfl, by decide⟩ o140 (by have := c_termOfL (I := I') (L := L) hL hp0 (i := i) (by omega) g (by rw [fp1]; omega); rw [fp1, f141] at this; exact this) (by decide) rfl rfl (Nat.le_of_ble_eq_true rfl) rfl rfl ?_
            refine wa_istore dX0_build_46 (by decide) ?_
            refine wa_aload_n dX0_build_48 rfl ?_
            refine wt_getR dX0_build_49 FX0_15 (by assumption) (by assumption) ?_
            refine wa_iload dX0_build_52 rfl ?_
            refine wa_iload dX0_build_54 rfl ?_
            refine wt_iast _ dX0_build_56 (by assumption) rfl (by omega) (by first | exact hir | exact ⟨by omega, by omega⟩) ?_
            refine wa_iload dX0_build_57 rfl ?_
            refine wa_iconst dX0_build_59 ?_
            refine wa_icmp_ne 74 dX0_build_60 (by decide) (by first | exact hir | exact ⟨by omega, by omega⟩) (by first | exact hir | exact ⟨by omega, by omega⟩) (fun c_60 => ?_) (fun c_60 => ?_)
            · refine wa_iinc dX0_build_74 rfl (by decide) ?_
              refine wa_goto 15 dX0_build_77 (by decide) ?_
              exact nx
            · omega
    · have key := c_termOfN (I := I') (L := L) hL hp0 (i := i) (by omega) hp5 g hg (by rw [fp1]; omega) hn' hn'5
      rw [fp1, fp2, fp3] at key
      cases hc : tsCome (tsOf I' n') (I (p + 1) i) (svOf (I' 142) 120 (-1) (I (p + 2) i)) (svOf (I' 142) 120 (-1) (I (p + 3) i)) g with
      | none =>
        have eb : bdF (I (p + 1)) (I (p + 2)) (I (p + 3)) (I 141) g (k + 1) i (tsOf I' n') (I' 142) = none := by simp only [bdF, h7, if_false, hc]
        rw [eb]
        simp only [hc] at key
        refine wa_iload dX0_build_15 rfl ?_
        refine wa_iload_n dX0_build_17 rfl ?_
        refine wa_icmp_ge 80 dX0_build_18 (by decide) (by exact ⟨by omega, by omega⟩) (by exact ⟨by omega, by omega⟩) (fun c_18 => ?_) (fun c_18 => ?_)
        · omega
        · refine wa_iload dX0_build_21 rfl ?_
          refine wa_aload_n dX0_build_23 rfl ?_
          refine wt_getI dX0_build_24 FX0_28 (by assumption) ?_
          try try rw [fp, hs]
          refine wa_icmp_ge 80 dX0_build_27 (by decide) (by exact ⟨by omega, by omega⟩) (by exact ⟨by omega, by omega⟩) (fun c_27 => ?_) (fun c_27 => ?_)
          · omega
          · refine wa_iload dX0_build_30 rfl ?_
            refine wa_bipush dX0_build_32 rfl ?_
            refine wa_icmp_ge 80 dX0_build_34 (by decide) (by exact ⟨by omega, by omega⟩) (by exact ⟨by omega, by omega⟩) (fun c_34 => ?_) (fun c_34 => ?_)
            · omega
            · refine wa_aload_n dX0_build_37 rfl ?_
              refine wa_aload_n dX0_build_38 rfl ?_
              refine wa_iload dX0_build_39 rfl ?_
              refine wa_iload dX0_build_41 rfl ?_
              refine wa_callV (ci := 0) dX0_build_43 KX0_termOf LX0_31 ⟨_, _, rfl, by decide⟩ o140 (key) (by decide) rfl (Nat.le_of_ble_eq_true rfl) rfl rfl (fun r h' hq => ?_)
              obtain ⟨I2, rfl, -, rfl, rfl⟩ := hq
              refine wa_istore dX0_build_46 (by decide) ?_
              refine wa_aload_n dX0_build_48 rfl ?_
              refine wt_getR dX0_build_49 FX0_15 (by assumption) (by assumption) ?_
              refine wa_iload dX0_build_52 rfl ?_
              refine wa_iload dX0_build_54 rfl ?_
              refine wt_iast _ dX0_build_56 (by assumption) rfl (by omega) (by exact ⟨by omega, by omega⟩) ?_
              refine wa_iload dX0_build_57 rfl ?_
              refine wa_iconst dX0_build_59 ?_
              refine wa_icmp_ne 74 dX0_build_60 (by decide) (by exact ⟨by omega, by omega⟩) (by exact ⟨by omega, by omega⟩) (fun c_60 => ?_) (fun c_60 => ?_)
              · omega
              · refine wa_aload_n dX0_build_63 rfl ?_
                refine wt_getR dX0_build_64 FX0_18 (by assumption) (by assumption) ?_
                refine wa_iload dX0_build_67 rfl ?_
                refine wt_putI dX0_build_69 FX0_22 (WX8_0 _ _) (by assumption) (by exact ⟨by omega, by omega⟩) ?_
                refine wa_iconst dX0_build_72 ?_
                refine wa_ireturn dX0_build_73 rfl ?_
                refine ⟨_, rfl, fun a c1 c2 c3 c4 c5 c6 c7 => ?_, rfl, ?_, fun a c1 c2 t ht => ?_⟩
                · rw [vup_n c1, vup_n c7]; exact hf a c1 c2 c3 c4 c5 c6 c7
                · rw [vup_s, vup_s]
                · rw [vup_n (by omega), vup_n (by omega)]; exact hrow a c1 c2 t ht
      | some tX =>
        obtain ⟨t, X⟩ := tX
        obtain ⟨i1, i2, i3, i4, i5⟩ := tsCome_in hc
        have eb : bdF (I (p + 1)) (I (p + 2)) (I (p + 3)) (I 141) g (k + 1) i (tsOf I' n') (I' 142) = bdF (I (p + 1)) (I (p + 2)) (I (p + 3)) (I 141) g k (i + 1) X (va_up (I' 142) i t) := by simp only [bdF, h7, if_false, hc]
        rw [eb]
        simp only [hc] at key
        have x5 := i2 hn'5
        refine wa_iload dX0_build_15 rfl ?_
        refine wa_iload_n dX0_build_17 rfl ?_
        refine wa_icmp_ge 80 dX0_build_18 (by decide) (by exact ⟨by omega, by omega⟩) (by exact ⟨by omega, by omega⟩) (fun c_18 => ?_) (fun c_18 => ?_)
        · omega
        · refine wa_iload dX0_build_21 rfl ?_
          refine wa_aload_n dX0_build_23 rfl ?_
          refine wt_getI dX0_build_24 FX0_28 (by assumption) ?_
          try try rw [fp, hs]
          refine wa_icmp_ge 80 dX0_build_27 (by decide) (by exact ⟨by omega, by omega⟩) (by exact ⟨by omega, by omega⟩) (fun c_27 => ?_) (fun c_27 => ?_)
          · omega
          · refine wa_iload dX0_build_30 rfl ?_
            refine wa_bipush dX0_build_32 rfl ?_
            refine wa_icmp_ge 80 dX0_build_34 (by decide) (by exact ⟨by omega, by omega⟩) (by exact ⟨by omega, by omega⟩) (fun c_34 => ?_) (fun c_34 => ?_)
            · omega
            · refine wa_aload_n dX0_build_37 rfl ?_
              refine wa_aload_n dX0_build_38 rfl ?_
              refine wa_iload dX0_build_39 rfl ?_
              refine wa_iload dX0_build_41 rfl ?_
              refine wa_callV (ci := 0) dX0_build_43 KX0_termOf LX0_31 ⟨_, _, rfl, by decide⟩ o140 (key) (by decide) rfl (Nat.le_of_ble_eq_true rfl) rfl rfl (fun r h' hq => ?_)
              obtain ⟨I2, rfl, g1, rfl, g2, g3⟩ := hq
              have g142 := g1 142 (by decide) (by decide) (by decide) (by decide) (by decide) (by decide)
              refine wa_istore dX0_build_46 (by decide) ?_
              refine wa_aload_n dX0_build_48 rfl ?_
              refine wt_getR dX0_build_49 FX0_15 (by assumption) (by assumption) ?_
              refine wa_iload dX0_build_52 rfl ?_
              refine wa_iload dX0_build_54 rfl ?_
              refine wt_iast _ dX0_build_56 (by assumption) rfl (by omega) (by exact ⟨by omega, by omega⟩) ?_
              refine wa_iload dX0_build_57 rfl ?_
              refine wa_iconst dX0_build_59 ?_
              refine wa_icmp_ne 74 dX0_build_60 (by decide) (by exact ⟨by omega, by omega⟩) (by exact ⟨by omega, by omega⟩) (fun c_60 => ?_) (fun c_60 => ?_)
              · refine wa_iinc dX0_build_74 rfl (by decide) ?_
                refine wa_goto 15 dX0_build_77 (by decide) ?_
                have nx := ih (i + 1) (va_up I2 142 (va_up (I2 142) i t)) X.1 t none (by omega) (by omega) (fun _ => by rw [vup_s, show i + 1 - 1 = i by omega, vup_s]) (fun a c1 c2 c3 c4 c5 c6 c7 => by rw [vup_n c7, g1 a c1 c2 c3 c4 c5 c6]; exact hf a c1 c2 c3 c4 c5 c6 c7) (by rw [vup_n (by decide)]; exact g2) x5 (by simp only [tsOf] at i1; omega) (fun a c1 c2 t' ht' => by
                  rw [vup_n (by omega)]
                  have hrows : I2 a t' = I' a t' := by
                    have e := i5 t' (by simp only [tsOf]; omega)
                    rw [← g3] at e
                    simp only [tsOf] at e
                    obtain rfl | rfl | rfl | rfl | rfl : a = 3 ∨ a = 4 ∨ a = 5 ∨ a = 6 ∨ a = 7 := by omega
                    · exact e.1
                    · exact e.2.1
                    · exact e.2.2.1
                    · exact e.2.2.2.1
                    · exact e.2.2.2.2
                  rw [hrows]; exact hrow a c1 c2 t' ht')
                have g3' : tsOf (va_up I2 142 (va_up (I2 142) i t)) X.1 = X := by rw [← g3]; simp only [tsOf, vup_if, Nat.reduceEqDiff, ↓reduceIte]
                rw [g3', vup_s, g142] at nx
                rw [g142]
                exact nx
              · omega
set_option maxRecDepth 20000 in
theorem c_build (hL : LX S) {p m sz : Nat} (hp : LPat S p m) (hp5 : 150 ≤ p) (hs : I p 0 = (sz : Int)) (hsm : sz ≤ m) (hm : m ≤ 120) (hw : WFN sz (I (p + 1)) (I (p + 2)) (I (p + 3))) (fr to n : Nat) (hto : to ≤ sz) (hfr : fr < to) (g : Int) (hg : inR g) (hn : I 2 0 = (n : Int)) (hn5 : n ≤ 50) (hlt : ∀ i, fr ≤ i → i < to → 7 ≤ I (p + 1) i → 0 ≤ I 141 (I (p + 1) i - 7).toNat) :
    tmC yX0_build kX0_build 3 0 0 [tR 140, tR p, tI fr, tI to, tI g] (S, I, L) (BdPost S I L n (to - 1) (bdF (I (p + 1)) (I (p + 2)) (I (p + 3)) (I 141) g (to - fr) fr (tsOf I n) (I 142))) := by
  refine tmC.mk (lv := [some (tR 140), some (tR p), some (tI fr), some (tI to), some (tI g), none, none, none]) 3 ⟨rfl, by decide +kernel, by decide⟩ rfl rfl ?_
  have o140 := oX140 hL
  have r140_0 := rX140_0 hL
  have r140_1 := rX140_1 hL
  have r140_2 := rX140_2 hL
  have o2 := oX2 hL
  have r2_1 := rX2_1 hL
  have r2_2 := rX2_2 hL
  have r2_3 := rX2_3 hL
  have r2_4 := rX2_4 hL
  have r2_5 := rX2_5 hL
  refine wa_aload_n dX0_build_0 rfl ?_
  refine wt_getR dX0_build_1 FX0_18 (by assumption) (by assumption) ?_
  refine wt_getI dX0_build_4 FX0_22 (by assumption) ?_
  try rw [hn]
  refine wa_istore dX0_build_7 (by decide) ?_
  refine wa_iconst dX0_build_9 ?_
  refine wa_istore dX0_build_10 (by decide) ?_
  refine wa_iload_n dX0_build_12 rfl ?_
  refine wa_istore dX0_build_13 (by decide) ?_
  exact build_loop hL hp hp5 hs hsm hm hw fr to n hto hfr g hg hn5 hlt (to - fr) fr I n (-1) none (by omega) (by omega) (fun z => by omega) (fun _ _ _ _ _ _ _ _ => rfl) hn hn5 (by omega) (fun _ _ _ _ _ => rfl)
end S30
