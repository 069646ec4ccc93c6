/-! ===== 16: classes State (now is 1, its patterns 8), States (14: slots 15, spare, size) ===== -/
theorem tmW.wk {M : tmMS} {d bc bs pc : Nat} {lv : List (Option tmV)} {st : List tmV} {h : tmH} {Q Q2 : Option tmV → tmH → Prop} (hW : tmW M d bc bs pc lv st h Q) (hq : ∀ r h', Q r h' → Q2 r h') : tmW M d bc bs pc lv st h Q2 := by
  intro p l e R s m args below meth c H locs cells slots b0 G ls X hc hs hl hR hS T hT X'
  obtain ⟨t, a, o, b1, b2, ⟨⟨r, h', w1, w2, w3⟩, w4⟩, b4⟩ := hW p l e R s m args below meth c H locs cells slots b0 G ls X hc hs hl hR hS T hT X'
  exact ⟨t, a, o, b1, b2, ⟨⟨r, h', w1, hq _ _ w2, w3⟩, w4⟩, b4⟩
/-- a State at A: Terms A + 1, patterns A + 7, blank A + 8 -/
def LSta (S : tmS) (A : Nat) : Prop := tmObj S A 6 ∧ S.2.2.2 A 0 = some (A + 1) ∧ S.2.2.2 A 1 = some (A + 7) ∧ S.2.2.2 A 3 = some (A + 8) ∧ LTer S (A + 1) ∧ tmArr S (A + 7) 15 6 ∧ LPat S (A + 8) 0
theorem LX.now {S : tmS} (h : LX S) : LSta S 1 := ⟨oX1 h, rX1_0 h, rX1_1 h, rX1_3 h, ⟨oX2 h, rX2_1 h, rX2_2 h, rX2_3 h, rX2_4 h, rX2_5 h, oX3 h, oX4 h, oX5 h, oX6 h, oX7 h⟩, oX8 h, ⟨oX9 h, rX9_2 h, rX9_3 h, rX9_4 h, rX9_5 h, oX10 h, oX11 h, oX12 h, oX13 h⟩⟩
theorem LX.slot {S : tmS} (h : LX S) : ∀ k, k < 9 → LSta S (16 + 13 * k) ∧ S.2.2.2 15 k = some (16 + 13 * k) := by
  intro k hk
  match k, hk with
  | 0, _ => exact ⟨⟨oX16 h, rX16_0 h, rX16_1 h, rX16_3 h, ⟨oX17 h, rX17_1 h, rX17_2 h, rX17_3 h, rX17_4 h, rX17_5 h, oX18 h, oX19 h, oX20 h, oX21 h, oX22 h⟩, oX23 h, ⟨oX24 h, rX24_2 h, rX24_3 h, rX24_4 h, rX24_5 h, oX25 h, oX26 h, oX27 h, oX28 h⟩⟩, rX15_0 h⟩
  | 1, _ => exact ⟨⟨oX29 h, rX29_0 h, rX29_1 h, rX29_3 h, ⟨oX30 h, rX30_1 h, rX30_2 h, rX30_3 h, rX30_4 h, rX30_5 h, oX31 h, oX32 h, oX33 h, oX34 h, oX35 h⟩, oX36 h, ⟨oX37 h, rX37_2 h, rX37_3 h, rX37_4 h, rX37_5 h, oX38 h, oX39 h, oX40 h, oX41 h⟩⟩, rX15_1 h⟩
  | 2, _ => exact ⟨⟨oX42 h, rX42_0 h, rX42_1 h, rX42_3 h, ⟨oX43 h, rX43_1 h, rX43_2 h, rX43_3 h, rX43_4 h, rX43_5 h, oX44 h, oX45 h, oX46 h, oX47 h, oX48 h⟩, oX49 h, ⟨oX50 h, rX50_2 h, rX50_3 h, rX50_4 h, rX50_5 h, oX51 h, oX52 h, oX53 h, oX54 h⟩⟩, rX15_2 h⟩
  | 3, _ => exact ⟨⟨oX55 h, rX55_0 h, rX55_1 h, rX55_3 h, ⟨oX56 h, rX56_1 h, rX56_2 h, rX56_3 h, rX56_4 h, rX56_5 h, oX57 h, oX58 h, oX59 h, oX60 h, oX61 h⟩, oX62 h, ⟨oX63 h, rX63_2 h, rX63_3 h, rX63_4 h, rX63_5 h, oX64 h, oX65 h, oX66 h, oX67 h⟩⟩, rX15_3 h⟩
  | 4, _ => exact ⟨⟨oX68 h, rX68_0 h, rX68_1 h, rX68_3 h, ⟨oX69 h, rX69_1 h, rX69_2 h, rX69_3 h, rX69_4 h, rX69_5 h, oX70 h, oX71 h, oX72 h, oX73 h, oX74 h⟩, oX75 h, ⟨oX76 h, rX76_2 h, rX76_3 h, rX76_4 h, rX76_5 h, oX77 h, oX78 h, oX79 h, oX80 h⟩⟩, rX15_4 h⟩
  | 5, _ => exact ⟨⟨oX81 h, rX81_0 h, rX81_1 h, rX81_3 h, ⟨oX82 h, rX82_1 h, rX82_2 h, rX82_3 h, rX82_4 h, rX82_5 h, oX83 h, oX84 h, oX85 h, oX86 h, oX87 h⟩, oX88 h, ⟨oX89 h, rX89_2 h, rX89_3 h, rX89_4 h, rX89_5 h, oX90 h, oX91 h, oX92 h, oX93 h⟩⟩, rX15_5 h⟩
  | 6, _ => exact ⟨⟨oX94 h, rX94_0 h, rX94_1 h, rX94_3 h, ⟨oX95 h, rX95_1 h, rX95_2 h, rX95_3 h, rX95_4 h, rX95_5 h, oX96 h, oX97 h, oX98 h, oX99 h, oX100 h⟩, oX101 h, ⟨oX102 h, rX102_2 h, rX102_3 h, rX102_4 h, rX102_5 h, oX103 h, oX104 h, oX105 h, oX106 h⟩⟩, rX15_6 h⟩
  | 7, _ => exact ⟨⟨oX107 h, rX107_0 h, rX107_1 h, rX107_3 h, ⟨oX108 h, rX108_1 h, rX108_2 h, rX108_3 h, rX108_4 h, rX108_5 h, oX109 h, oX110 h, oX111 h, oX112 h, oX113 h⟩, oX114 h, ⟨oX115 h, rX115_2 h, rX115_3 h, rX115_4 h, rX115_5 h, oX116 h, oX117 h, oX118 h, oX119 h⟩⟩, rX15_7 h⟩
  | 8, _ => exact ⟨⟨oX120 h, rX120_0 h, rX120_1 h, rX120_3 h, ⟨oX121 h, rX121_1 h, rX121_2 h, rX121_3 h, rX121_4 h, rX121_5 h, oX122 h, oX123 h, oX124 h, oX125 h, oX126 h⟩, oX127 h, ⟨oX128 h, rX128_2 h, rX128_3 h, rX128_4 h, rX128_5 h, oX129 h, oX130 h, oX131 h, oX132 h⟩⟩, rX15_8 h⟩
/-- every place of the patterns holds a Pattern -/
def PRow (S : tmS) (A : Nat) : Prop := ∀ r, r < 6 → ∃ p, S.2.2.2 (A + 7) r = some p ∧ tmObj S p 2
/-- the State at A1 has become that at A2 (the ints) -/
def CpS (I I' : Nat → Nat → Int) (A1 A2 : Nat) : Prop := I' A1 2 = I A2 2 ∧ I' (A1 + 1) 0 = I (A2 + 1) 0 ∧ (∀ i, 1 ≤ i → i ≤ 5 → ∀ k, k < 50 → I' (A1 + 1 + i) k = I (A2 + 1 + i) k) ∧ ∀ a, (a < A1 ∨ A1 + 6 < a) → I' a = I a
section S16
variable {n : Nat} {C N : Nat → Nat} {R : Nat → Nat → Option Nat} {I : Nat → Nat → Int} {L : Nat → Nat → Int64}
theorem tmObj.r {R' : Nat → Nat → Option Nat} {i ci : Nat} (h : tmObj (n, C, N, R) i ci) : tmObj (n, C, N, R') i ci := h
theorem tmArr.r {R' : Nat → Nat → Option Nat} {i kd nn : Nat} (h : tmArr (n, C, N, R) i kd nn) : tmArr (n, C, N, R') i kd nn := h
set_option maxRecDepth 20000 in
theorem Scopy_loop {A1 A2 : Nat} (h1 : LSta (n, C, N, R) A1) (h2 : LSta (n, C, N, R) A2) (hp : PRow (n, C, N, R) A2) (hd : A2 + 12 < A1 ∨ A1 + 12 < A2) : ∀ (k r : Nat) (R' : Nat → Nat → Option Nat), r + k = 6 → (∀ q, q < r → R' (A1 + 7) q = R (A2 + 7) q) → (∀ a, a ≠ A1 + 7 → R' a = R a) →
    tmW kX6_copyFrom 3 0 0 21 [some (tR A1), some (tR A2), some (tI r)] [] ((n, C, N, R'), I, L) (fun r h' => r = none ∧ ∃ R'', h' = ((n, C, N, R''), I, L) ∧ (∀ q, q < 6 → R'' (A1 + 7) q = R (A2 + 7) q) ∧ ∀ a, a ≠ A1 + 7 → R'' a = R a) := by
  intro k
  have a1 := h1.1; have a2 := h1.2.2.1; have a3 := h1.2.2.2.2.2.1
  have b1 := h2.1; have b2 := h2.2.2.1; have b3 := h2.2.2.2.2.2.1
  induction k with
  | zero =>
    intro r R' hr h3 h4
    refine wa_iload_n dX6_copyFrom_21 rfl ?_
    refine wa_bipush dX6_copyFrom_22 rfl ?_
    refine wa_icmp_ge 45 dX6_copyFrom_24 (by decide) (by first | exact hI _ _ | exact ⟨by omega, by omega⟩ | assumption) (by first | exact hI _ _ | exact ⟨by omega, by omega⟩ | assumption) (fun c_24 => ?_) (fun c_24 => ?_)
    · refine wa_return dX6_copyFrom_45 rfl ?_
      exact ⟨rfl, R', rfl, fun q hq => h3 q (by omega), h4⟩
    · omega
  | succ k ih =>
    intro r R' hr h3 h4
    obtain ⟨p, e1, e2⟩ := hp r (by omega)
    refine wa_iload_n dX6_copyFrom_21 rfl ?_
    refine wa_bipush dX6_copyFrom_22 rfl ?_
    refine wa_icmp_ge 45 dX6_copyFrom_24 (by decide) (by first | exact hI _ _ | exact ⟨by omega, by omega⟩ | assumption) (by first | exact hI _ _ | exact ⟨by omega, by omega⟩ | assumption) (fun c_24 => ?_) (fun c_24 => ?_)
    · omega
    · refine wa_aload_n dX6_copyFrom_27 rfl ?_
      refine wt_getR dX6_copyFrom_28 FX6_20 (tmObj.r a1) (by show R' A1 1 = _; rw [h4 A1 (by omega)]; exact a2) ?_
      refine wa_iload_n dX6_copyFrom_31 rfl ?_
      refine wa_aload_n dX6_copyFrom_32 rfl ?_
      refine wt_getR dX6_copyFrom_33 FX6_20 (tmObj.r b1) (by show R' A2 1 = _; rw [h4 A2 (by omega)]; exact b2) ?_
      refine wa_iload_n dX6_copyFrom_36 rfl ?_
      refine wt_aaldP _ dX6_copyFrom_37 (tmArr.r b3) rfl (by omega) (show R' (A2 + 7) r = some p by rw [h4 _ (by omega)]; exact e1) ?_
      refine wt_aast _ dX6_copyFrom_38 (Or.inl ⟨rfl, rfl⟩) (tmArr.r a3) (tmObj.r e2) rfl (by omega) ?_
      refine wa_iinc dX6_copyFrom_39 rfl (by decide) ?_
      refine wa_goto 21 dX6_copyFrom_42 (by decide) ?_
      refine ih (r + 1) _ (by omega) ?_ ?_
      · intro q hq
        show va_up R' (A1 + 7) (va_up (R' (A1 + 7)) r (some p)) (A1 + 7) q = _
        rw [vup_s]
        by_cases h : q = r
        · subst h; rw [vup_s]; exact e1.symm
        · rw [vup_n h]; exact h3 q (by omega)
      · intro a ha
        show va_up R' (A1 + 7) (va_up (R' (A1 + 7)) r (some p)) a = _
        rw [vup_n ha]; exact h4 a ha
set_option maxRecDepth 20000 in
theorem c_Scopy {A1 A2 : Nat} (h1 : LSta (n, C, N, R) A1) (h2 : LSta (n, C, N, R) A2) (hp : PRow (n, C, N, R) A2) (hd : A2 + 12 < A1 ∨ A1 + 12 < A2) :
    tmC yX6_copyFrom kX6_copyFrom 3 0 0 [tR A1, tR A2] ((n, C, N, R), I, L) (fun r h' => r = none ∧ ∃ R' I', h' = ((n, C, N, R'), I', L) ∧ CpS I I' A1 A2 ∧ (∀ q, q < 6 → R' (A1 + 7) q = R (A2 + 7) q) ∧ ∀ a, a ≠ A1 + 7 → R' a = R a) := by
  refine tmC.mk (lv := [some (tR A1), some (tR A2), none]) 1 ⟨rfl, by decide +kernel, by decide⟩ rfl rfl ?_
  have a1 := h1.1; have a0 := h1.2.1
  have b1 := h2.1; have b0 := h2.2.1
  have tO := h1.2.2.2.2.1.1
  refine wa_aload_n dX6_copyFrom_0 rfl ?_
  refine wt_getR dX6_copyFrom_1 FX6_12 (by assumption) (by assumption) ?_
  refine wa_aload_n dX6_copyFrom_4 rfl ?_
  refine wt_getR dX6_copyFrom_5 FX6_12 (by assumption) (by assumption) ?_
  refine wa_callV (ci := 8) dX6_copyFrom_8 KX8_copyFrom LX6_35 ⟨_, _, rfl, by decide⟩ tO (c_Tcopy h1.2.2.2.2.1 h2.2.2.2.2.1 (by omega)) (by decide) rfl (Nat.le_of_ble_eq_true rfl) rfl rfl (fun r h' hq => ?_)
  obtain ⟨rfl, I', rfl, e0, e1, e2⟩ := hq
  refine wt_ir (fun hI => ?_)
  refine wa_aload_n dX6_copyFrom_11 rfl ?_
  refine wa_aload_n dX6_copyFrom_12 rfl ?_
  refine wt_getI dX6_copyFrom_13 FX6_24 (by assumption) ?_
  refine wt_putI dX6_copyFrom_16 FX6_24 (WX6_2 _ _) (by assumption) (by first | exact hI _ _ | exact ⟨by omega, by omega⟩ | assumption) ?_
  refine wa_iconst dX6_copyFrom_19 ?_
  refine wa_istore_n dX6_copyFrom_20 (by decide) ?_
  have eA : I' A2 2 = I A2 2 := by rw [e2 A2 (by omega)]
  have lp := Scopy_loop (I := va_up I' A1 (va_up (I' A1) 2 (I' A2 2))) (L := L) h1 h2 hp hd 6 0 R (by omega) (fun q hq => by omega) (fun _ _ => rfl)
  refine lp.wk ?_
  rintro r h' ⟨rfl, R'', rfl, f1, f2⟩
  refine ⟨rfl, R'', _, rfl, ⟨?_, ?_, ?_, ?_⟩, f1, f2⟩
  · rw [vup_s, vup_s, eA]
  · rw [vup_n (by omega)]; exact e0
  · intro i i1 i5 k hk
    rw [vup_n (by omega)]; exact e1 i i1 i5 k hk
  · intro a ha
    rw [vup_n (by omega)]; exact e2 a (by omega)
end S16
section S16b
variable {S : tmS} {I : Nat → Nat → Int} {L : Nat → Nat → Int64}
set_option maxRecDepth 20000 in
theorem c_hasRule (hL : LX S) {k : Nat} (hk : I 1 2 = (k : Int)) (r : Int) (hr : inR r) : tmC yX6_hasRule kX6_hasRule 1 0 0 [tR 1, tI r] (S, I, L) (tmF (some (tI (if 0 ≤ r ∧ r < k then 1 else 0))) (S, I, L)) := by
  refine tmC.mk (lv := [some (tR 1), some (tI r)]) 0 ⟨rfl, by decide +kernel, by decide⟩ rfl rfl ?_
  refine wt_ir (fun hI => ?_)
  have o1 := oX1 hL
  have r1_0 := rX1_0 hL
  have r1_1 := rX1_1 hL
  have r1_3 := rX1_3 hL
  refine wa_iload_n dX6_hasRule_0 rfl ?_
  refine wa_if_lt 16 dX6_hasRule_1 (by decide) (by first | exact hI _ _ | exact ⟨by omega, by omega⟩ | assumption) (fun c_1 => ?_) (fun c_1 => ?_)
  · refine wa_iconst dX6_hasRule_16 ?_
    refine wa_zreturn dX6_hasRule_17 rfl (by first | exact Or.inl rfl | exact Or.inr rfl) ?_
    exact ⟨by first | rw [if_pos (by omega)] | rw [if_neg (by omega)], rfl⟩
  · refine wa_iload_n dX6_hasRule_4 rfl ?_
    refine wa_aload_n dX6_hasRule_5 rfl ?_
    refine wt_getI dX6_hasRule_6 FX6_24 (by assumption) ?_
    refine wa_icmp_ge 16 dX6_hasRule_9 (by decide) (by first | exact hI _ _ | exact ⟨by omega, by omega⟩ | assumption) (by first | exact hI _ _ | exact ⟨by omega, by omega⟩ | assumption) (fun c_9 => ?_) (fun c_9 => ?_)
    · refine wa_iconst dX6_hasRule_16 ?_
      refine wa_zreturn dX6_hasRule_17 rfl (by first | exact Or.inl rfl | exact Or.inr rfl) ?_
      exact ⟨by first | rw [if_pos (by omega)] | rw [if_neg (by omega)], rfl⟩
    · refine wa_iconst dX6_hasRule_12 ?_
      refine wa_goto 17 dX6_hasRule_13 (by decide) ?_
      refine wa_zreturn dX6_hasRule_17 rfl (by first | exact Or.inl rfl | exact Or.inr rfl) ?_
      exact ⟨by first | rw [if_pos (by omega)] | rw [if_neg (by omega)], rfl⟩
set_option maxRecDepth 20000 in
theorem c_ruleAt (hL : LX S) {k : Nat} (hk : I 1 2 = (k : Int)) (hk6 : k ≤ 6) (r : Nat) (hr : r < k) {p : Nat} (hp : S.2.2.2 8 r = some p) : tmC yX6_ruleAt kX6_ruleAt 2 0 0 [tR 1, tI r] (S, I, L) (tmF (some (tR p)) (S, I, L)) := by
  refine tmC.mk (lv := [some (tR 1), some (tI r)]) 0 ⟨rfl, by decide +kernel, by decide⟩ rfl rfl ?_
  refine wt_ir (fun hI => ?_)
  have o1 := oX1 hL
  have r1_0 := rX1_0 hL
  have r1_1 := rX1_1 hL
  have r1_3 := rX1_3 hL
  have o8 := oX8 hL
  refine wa_aload_n dX6_ruleAt_0 rfl ?_
  refine wa_iload_n dX6_ruleAt_1 rfl ?_
  refine wa_callVf (ci := 6) dX6_ruleAt_2 KX6_hasRule LX6_42 ⟨_, _, rfl, by decide⟩ (by assumption) (by have := c_hasRule (L := L) hL hk r ⟨by omega, by omega⟩; rw [if_pos ⟨by omega, by omega⟩] at this; exact this) (by decide) rfl rfl (Nat.le_of_ble_eq_true rfl) rfl rfl ?_
  refine wa_if_eq 17 dX6_ruleAt_5 (by decide) (by first | exact hI _ _ | exact ⟨by omega, by omega⟩ | assumption) (fun c_5 => ?_) (fun c_5 => ?_)
  · omega
  · refine wa_aload_n dX6_ruleAt_8 rfl ?_
    refine wt_getR dX6_ruleAt_9 FX6_20 (by assumption) (by assumption) ?_
    refine wa_iload_n dX6_ruleAt_12 rfl ?_
    refine wt_aaldP _ dX6_ruleAt_13 (by assumption) rfl (by omega) (by assumption) ?_
    refine wa_goto 21 dX6_ruleAt_14 (by decide) ?_
    refine wa_areturn dX6_ruleAt_21 rfl ?_
    exact ⟨rfl, rfl⟩
set_option maxRecDepth 20000 in
theorem c_Sempty (hL : LX S) : tmC yX6_empty kX6_empty 1 0 0 [tR 1] (S, I, L) (tmF none (S, va_up (va_up I 2 (va_up (I 2) 0 0)) 1 (va_up (I 1) 2 0), L)) := by
  refine tmC.mk (lv := [some (tR 1)]) 0 ⟨rfl, by decide +kernel, by decide⟩ rfl rfl ?_
  have o1 := oX1 hL
  have r1_0 := rX1_0 hL
  have r1_1 := rX1_1 hL
  have r1_3 := rX1_3 hL
  have o2 := oX2 hL
  have r2_1 := rX2_1 hL
  have r2_2 := rX2_2 hL
  have r2_3 := rX2_3 hL
  have r2_4 := rX2_4 hL
  have r2_5 := rX2_5 hL
  refine wa_aload_n dX6_empty_0 rfl ?_
  refine wt_getR dX6_empty_1 FX6_12 (by assumption) (by assumption) ?_
  refine wa_iconst dX6_empty_4 ?_
  refine wt_putI dX6_empty_5 FX6_39 (WX8_0 _ _) (by assumption) (by exact ⟨by omega, by omega⟩) ?_
  refine wa_aload_n dX6_empty_8 rfl ?_
  refine wa_iconst dX6_empty_9 ?_
  refine wt_putI dX6_empty_10 FX6_24 (WX6_2 _ _) (by assumption) (by exact ⟨by omega, by omega⟩) ?_
  refine wa_return dX6_empty_13 rfl ?_
  exact ⟨rfl, rfl⟩
set_option maxRecDepth 20000 in
theorem c_addRule (hL : LX S) {k : Nat} (hk : I 1 2 = (k : Int)) (hk6 : k < 6) {p : Nat} (hp : tmObj S p 2) : tmC yX6_addRule kX6_addRule 1 0 0 [tR 1, tR p] (S, I, L) (tmF none ((S.1, S.2.1, S.2.2.1, va_up S.2.2.2 8 (va_up (S.2.2.2 8) k (some p))), va_up I 1 (va_up (I 1) 2 (k + 1 : Nat)), L)) := by
  refine tmC.mk (lv := [some (tR 1), some (tR p)]) 0 ⟨rfl, by decide +kernel, by decide⟩ rfl rfl ?_
  refine wt_ir (fun hI => ?_)
  have o1 := oX1 hL
  have r1_0 := rX1_0 hL
  have r1_1 := rX1_1 hL
  have r1_3 := rX1_3 hL
  have o8 := oX8 hL
  have q1 : tmObj (S.1, S.2.1, S.2.2.1, va_up S.2.2.2 8 (va_up (S.2.2.2 8) k (some p))) 1 6 := o1
  refine wa_aload_n dX6_addRule_0 rfl ?_
  refine wt_getI dX6_addRule_1 FX6_24 (by assumption) ?_
  refine wa_bipush dX6_addRule_4 rfl ?_
  refine wa_icmp_ge 29 dX6_addRule_6 (by decide) (by first | exact hI _ _ | exact ⟨by omega, by omega⟩ | assumption) (by first | exact hI _ _ | exact ⟨by omega, by omega⟩ | assumption) (fun c_6 => ?_) (fun c_6 => ?_)
  · omega
  · refine wa_aload_n dX6_addRule_9 rfl ?_
    refine wt_getR dX6_addRule_10 FX6_20 (by assumption) (by assumption) ?_
    refine wa_aload_n dX6_addRule_13 rfl ?_
    refine wt_getI dX6_addRule_14 FX6_24 (by assumption) ?_
    refine wa_aload_n dX6_addRule_17 rfl ?_
    refine wt_aast k dX6_addRule_18 (Or.inl ⟨rfl, rfl⟩) (by assumption) (by assumption) hk (by omega) ?_
    refine wa_aload_n dX6_addRule_19 rfl ?_
    refine wa_dup dX6_addRule_20 rfl ?_
    refine wt_getI dX6_addRule_21 FX6_24 (by assumption) ?_
    refine wa_iconst dX6_addRule_24 ?_
    refine wa_iadd dX6_addRule_25 ?_
    refine wt_putI dX6_addRule_26 FX6_24 (WX6_2 _ _) (by assumption) (by exact ⟨by omega, by omega⟩) ?_
    refine wa_return dX6_addRule_29 rfl ?_
    refine ⟨rfl, ?_⟩
    rw [hk]
    rfl
/-- the patterns behind r are one nearer -/
def tmShift (f : Nat → Option Nat) (r k : Nat) : Nat → Option Nat := fun q => if r ≤ q ∧ q + 1 < k then f (q + 1) else f q
set_option maxRecDepth 20000 in
theorem removeRule_loop (hL : LX S) {k : Nat} (hk : I 1 2 = (k : Int)) (hk6 : k ≤ 6) (hp : PRow S 1) (r : Nat) : ∀ (j i : Nat) (f : Nat → Option Nat), i + j = k → r ≤ i → (∀ q, f q = if r ≤ q ∧ q < i ∧ q + 1 < k then S.2.2.2 8 (q + 1) else S.2.2.2 8 q) → 1 ≤ j →
    tmW kX6_removeRule 2 0 0 11 [some (tR 1), some (tI r), some (tI i)] [] ((S.1, S.2.1, S.2.2.1, va_up S.2.2.2 8 f), I, L) (tmF none ((S.1, S.2.1, S.2.2.1, va_up S.2.2.2 8 (tmShift (S.2.2.2 8) r k)), va_up I 1 (va_up (I 1) 2 (k - 1 : Nat)), L)) := by
  intro j
  have o1 := oX1 hL
  have r1_0 := rX1_0 hL
  have r1_1 := rX1_1 hL
  have r1_3 := rX1_3 hL
  have o8 := oX8 hL
  induction j with
  | zero => intro i f _ _ _ h; omega
  | succ j ih =>
    intro i f hi hr hf _
    have ob1 : tmObj (S.1, S.2.1, S.2.2.1, va_up S.2.2.2 8 f) 1 6 := o1
    have ob8 : tmArr (S.1, S.2.1, S.2.2.1, va_up S.2.2.2 8 f) 8 15 6 := o8
    have rf1 : (S.1, S.2.1, S.2.2.1, va_up S.2.2.2 8 f).2.2.2 1 1 = some 8 := by show va_up S.2.2.2 8 f 1 1 = _; rw [vup_n (by decide)]; exact r1_1
    refine wt_ir (fun hI => ?_)
    by_cases hj : j = 0
    · refine wa_iload_n dX6_removeRule_11 rfl ?_
      refine wa_iconst dX6_removeRule_12 ?_
      refine wa_iadd dX6_removeRule_13 ?_
      refine wa_aload_n dX6_removeRule_14 rfl ?_
      refine wt_getI dX6_removeRule_15 FX6_24 (by assumption) ?_
      refine wa_icmp_ge 41 dX6_removeRule_18 (by decide) (by first | exact hI _ _ | exact ⟨by omega, by omega⟩ | assumption) (by first | exact hI _ _ | exact ⟨by omega, by omega⟩ | assumption) (fun c_18 => ?_) (fun c_18 => ?_)
      · refine wa_aload_n dX6_removeRule_41 rfl ?_
        refine wa_dup dX6_removeRule_42 rfl ?_
        refine wt_getI dX6_removeRule_43 FX6_24 (by assumption) ?_
        refine wa_iconst dX6_removeRule_46 ?_
        refine wa_isub dX6_removeRule_47 ?_
        refine wt_putI dX6_removeRule_48 FX6_24 (WX6_2 _ _) (by assumption) (by exact ⟨by omega, by omega⟩) ?_
        refine wa_return dX6_removeRule_51 rfl ?_
        refine ⟨rfl, ?_⟩
        rw [hk, show ((k : Int) - 1) = ((k - 1 : Nat) : Int) by omega]
        have e : f = tmShift (S.2.2.2 8) r k := by
          funext q
          rw [hf q, tmShift]
          by_cases h : r ≤ q ∧ q + 1 < k
          · rw [if_pos ⟨h.1, by omega, h.2⟩, if_pos h]
          · rw [if_neg (fun z => h ⟨z.1, z.2.2⟩), if_neg h]
        rw [e]
      · omega
    · obtain ⟨p, e1, e2⟩ := hp (i + 1) (by omega)
      have e1 : S.2.2.2 8 (i + 1) = some p := e1
      have e3 : va_up S.2.2.2 8 f 8 (i + 1) = some p := by rw [vup_s, hf, if_neg (by omega)]; exact e1
      refine wa_iload_n dX6_removeRule_11 rfl ?_
      refine wa_iconst dX6_removeRule_12 ?_
      refine wa_iadd dX6_removeRule_13 ?_
      refine wa_aload_n dX6_removeRule_14 rfl ?_
      refine wt_getI dX6_removeRule_15 FX6_24 (by assumption) ?_
      refine wa_icmp_ge 41 dX6_removeRule_18 (by decide) (by first | exact hI _ _ | exact ⟨by omega, by omega⟩ | assumption) (by first | exact hI _ _ | exact ⟨by omega, by omega⟩ | assumption) (fun c_18 => ?_) (fun c_18 => ?_)
      · omega
      · refine wa_aload_n dX6_removeRule_21 rfl ?_
        refine wt_getR dX6_removeRule_22 FX6_20 (by assumption) (by assumption) ?_
        refine wa_iload_n dX6_removeRule_25 rfl ?_
        refine wa_aload_n dX6_removeRule_26 rfl ?_
        refine wt_getR dX6_removeRule_27 FX6_20 (by assumption) (by assumption) ?_
        refine wa_iload_n dX6_removeRule_30 rfl ?_
        refine wa_iconst dX6_removeRule_31 ?_
        refine wa_iadd dX6_removeRule_32 ?_
        refine wt_aaldP (i + 1) dX6_removeRule_33 (by assumption) rfl (by omega) e3 ?_
        refine wt_aast _ dX6_removeRule_34 (Or.inl ⟨rfl, rfl⟩) (by assumption) e2 rfl (by omega) ?_
        refine wa_iinc dX6_removeRule_35 rfl (by decide) ?_
        refine wa_goto 11 dX6_removeRule_38 (by decide) ?_
        have lp := ih (i + 1) (va_up f i (some p)) (by omega) (by omega) (fun q => ?_) (by omega)
        · have e4 : va_up (va_up S.2.2.2 8 f) 8 (va_up (va_up S.2.2.2 8 f 8) i (some p)) = va_up S.2.2.2 8 (va_up f i (some p)) := by rw [vup_vup, vup_s]
          show tmW _ _ _ _ _ _ _ ((S.1, S.2.1, S.2.2.1, va_up (va_up S.2.2.2 8 f) 8 (va_up (va_up S.2.2.2 8 f 8) i (some p))), I, L) _
          rw [e4]
          exact lp
        · by_cases h : q = i
          · subst h; rw [vup_s, if_pos ⟨by omega, by omega, by omega⟩]; exact e1.symm
          · rw [vup_n h, hf q]
            by_cases h2 : r ≤ q ∧ q < i ∧ q + 1 < k
            · rw [if_pos h2, if_pos ⟨h2.1, by omega, h2.2.2⟩]
            · rw [if_neg h2, if_neg (fun z => h2 ⟨z.1, by omega, z.2.2⟩)]
set_option maxRecDepth 20000 in
theorem c_removeRule (hL : LX S) {k : Nat} (hk : I 1 2 = (k : Int)) (hk6 : k ≤ 6) (hp : PRow S 1) (r : Nat) (hr : r < k) : tmC yX6_removeRule kX6_removeRule 2 0 0 [tR 1, tI r] (S, I, L) (tmF none ((S.1, S.2.1, S.2.2.1, va_up S.2.2.2 8 (tmShift (S.2.2.2 8) r k)), va_up I 1 (va_up (I 1) 2 (k - 1 : Nat)), L)) := by
  refine tmC.mk (lv := [some (tR 1), some (tI r), none]) 1 ⟨rfl, by decide +kernel, by decide⟩ rfl rfl ?_
  refine wt_ir (fun hI => ?_)
  have o1 := oX1 hL
  have r1_0 := rX1_0 hL
  have r1_1 := rX1_1 hL
  have r1_3 := rX1_3 hL
  have o8 := oX8 hL
  refine wa_aload_n dX6_removeRule_0 rfl ?_
  refine wa_iload_n dX6_removeRule_1 rfl ?_
  refine wa_callVf (ci := 6) dX6_removeRule_2 KX6_hasRule LX6_42 ⟨_, _, rfl, by decide⟩ (by assumption) (by have := c_hasRule (L := L) hL hk r ⟨by omega, by omega⟩; rw [if_pos ⟨by omega, by omega⟩] at this; exact this) (by decide) rfl rfl (Nat.le_of_ble_eq_true rfl) rfl rfl ?_
  refine wa_if_ne 9 dX6_removeRule_5 (by decide) (by first | exact hI _ _ | exact ⟨by omega, by omega⟩ | assumption) (fun c_5 => ?_) (fun c_5 => ?_)
  · refine wa_iload_n dX6_removeRule_9 rfl ?_
    refine wa_istore_n dX6_removeRule_10 (by decide) ?_
    have lp := removeRule_loop (L := L) hL hk hk6 hp r (k - r) r (S.2.2.2 8) (by omega) (by omega) (fun q => by rw [if_neg (by omega)]) (by omega)
    rw [vup_self] at lp
    exact lp
  · omega
end S16b
