/-! ===== 17: class States ===== -/
theorem tm_rem9 : ∀ k, k < 18 → Int32.ofInt (k : Nat) - Int32.ofInt (k : Nat) / Int32.ofInt 9 * Int32.ofInt 9 = Int32.ofInt ((k % 9 : Nat)) := by decide
section S17
variable {n : Nat} {C N : Nat → Nat} {R : Nat → Nat → Option Nat} {I : Nat → Nat → Int} {L : Nat → Nat → Int64}
/-- what a copy of States leaves -/
abbrev CpPost (n : Nat) (C N : Nat → Nat) (R : Nat → Nat → Option Nat) (I : Nat → Nat → Int) (L : Nat → Nat → Int64) (A1 A2 : Nat) : Option tmV → tmH → Prop := fun r h' => r = none ∧ ∃ R' I', h' = ((n, C, N, R'), I', L) ∧ CpS I I' A1 A2 ∧ (∀ q, q < 6 → R' (A1 + 7) q = R (A2 + 7) q) ∧ ∀ a, a ≠ A1 + 7 → R' a = R a
set_option maxRecDepth 20000 in
theorem c_prepare (hL : LX (n, C, N, R)) (hp : PRow (n, C, N, R) 1) {k : Nat} (hk : I 14 1 = (k : Int)) (hk9 : k < 9) : tmC yX7_prepare kX7_prepare 4 0 0 [tR 14, tR 1] ((n, C, N, R), I, L) (CpPost n C N R I L (16 + 13 * k) 1) := by
  refine tmC.mk (lv := [some (tR 14), some (tR 1)]) 0 ⟨rfl, by decide +kernel, by decide⟩ rfl rfl ?_
  refine wt_ir (fun hI => ?_)
  have o14 := oX14 hL
  have r14_0 := rX14_0 hL
  have o15 := oX15 hL
  have r15_0 := rX15_0 hL
  have r15_1 := rX15_1 hL
  have r15_2 := rX15_2 hL
  have r15_3 := rX15_3 hL
  have r15_4 := rX15_4 hL
  have r15_5 := rX15_5 hL
  have r15_6 := rX15_6 hL
  have r15_7 := rX15_7 hL
  have r15_8 := rX15_8 hL
  obtain ⟨hs, hr⟩ := hL.slot k hk9
  have hs0 := hs.1
  refine wa_aload_n dX7_prepare_0 rfl ?_
  refine wt_getR dX7_prepare_1 FX7_13 (by assumption) (by assumption) ?_
  refine wa_aload_n dX7_prepare_4 rfl ?_
  refine wt_getI dX7_prepare_5 FX7_17 (by assumption) ?_
  refine wt_aaldS k dX7_prepare_8 (by assumption) hk (by omega) (by assumption) ?_
  refine wa_aload_n dX7_prepare_9 rfl ?_
  refine wa_callV (ci := 6) dX7_prepare_10 KX6_copyFrom LX7_25 ⟨_, _, rfl, by decide⟩ hs0 (c_Scopy hs hL.now hp (by omega)) (by decide) rfl (Nat.le_of_ble_eq_true rfl) rfl rfl (fun r h' hq => ?_)
  obtain ⟨rfl, R', I', rfl, e⟩ := hq
  refine wa_return dX7_prepare_13 rfl ?_
  exact ⟨rfl, R', I', rfl, e⟩
set_option maxRecDepth 20000 in
theorem c_undo (hL : LX (n, C, N, R)) {k : Nat} (hk : I 14 1 = (k : Int)) (hk9 : k < 9) (hp : PRow (n, C, N, R) (16 + 13 * k)) : tmC yX7_undo kX7_undo 4 0 0 [tR 14, tR 1] ((n, C, N, R), I, L) (CpPost n C N R I L 1 (16 + 13 * k)) := by
  refine tmC.mk (lv := [some (tR 14), some (tR 1)]) 0 ⟨rfl, by decide +kernel, by decide⟩ rfl rfl ?_
  refine wt_ir (fun hI => ?_)
  have o14 := oX14 hL
  have r14_0 := rX14_0 hL
  have o15 := oX15 hL
  have r15_0 := rX15_0 hL
  have r15_1 := rX15_1 hL
  have r15_2 := rX15_2 hL
  have r15_3 := rX15_3 hL
  have r15_4 := rX15_4 hL
  have r15_5 := rX15_5 hL
  have r15_6 := rX15_6 hL
  have r15_7 := rX15_7 hL
  have r15_8 := rX15_8 hL
  have o1 := oX1 hL
  have r1_0 := rX1_0 hL
  have r1_1 := rX1_1 hL
  have r1_3 := rX1_3 hL
  obtain ⟨hs, hr⟩ := hL.slot k hk9
  refine wa_aload_n dX7_undo_0 rfl ?_
  refine wa_aload_n dX7_undo_1 rfl ?_
  refine wt_getR dX7_undo_2 FX7_13 (by assumption) (by assumption) ?_
  refine wa_aload_n dX7_undo_5 rfl ?_
  refine wt_getI dX7_undo_6 FX7_17 (by assumption) ?_
  refine wt_aaldS k dX7_undo_9 (by assumption) hk (by omega) (by assumption) ?_
  refine wa_callV (ci := 6) dX7_undo_10 KX6_copyFrom LX7_25 ⟨_, _, rfl, by decide⟩ o1 (c_Scopy hL.now hs hp (by omega)) (by decide) rfl (Nat.le_of_ble_eq_true rfl) rfl rfl (fun r h' hq => ?_)
  obtain ⟨rfl, R', I', rfl, e⟩ := hq
  refine wa_return dX7_undo_13 rfl ?_
  exact ⟨rfl, R', I', rfl, e⟩
set_option maxRecDepth 20000 in
theorem c_keepPrepared {S : tmS} (hL : LX S) {k z : Nat} (hk : I 14 1 = (k : Int)) (hk9 : k < 9) (hz : I 14 2 = (z : Int)) (hz8 : z ≤ 8) : tmC yX7_keepPrepared kX7_keepPrepared 2 0 0 [tR 14] (S, I, L) (tmF none (S, va_up I 14 (va_up (va_up (I 14) 1 ((k + 1) % 9 : Nat)) 2 (if z < 8 then z + 1 else 8 : Nat)), L)) := by
  refine tmC.mk (lv := [some (tR 14)]) 0 ⟨rfl, by decide +kernel, by decide⟩ rfl rfl ?_
  refine wt_ir (fun hI => ?_)
  have o14 := oX14 hL
  have r14_0 := rX14_0 hL
  have hm : (k + 1) % 9 < 9 := Nat.mod_lt _ (by decide)
  refine wa_aload_n dX7_keepPrepared_0 rfl ?_
  refine wa_aload_n dX7_keepPrepared_1 rfl ?_
  refine wt_getI dX7_keepPrepared_2 FX7_17 (by assumption) ?_
  try simp only [vup_s, vup_if, Nat.reduceEqDiff, ↓reduceIte, hk, hz]
  refine wa_iconst dX7_keepPrepared_5 ?_
  refine wa_iadd dX7_keepPrepared_6 ?_
  refine wa_bipush dX7_keepPrepared_7 rfl ?_
  refine wa_irem dX7_keepPrepared_9 (r := (((k + 1) % 9 : Nat) : Int)) (by decide) (tm_rem9 (k + 1) (by omega)) ?_
  refine wt_putI dX7_keepPrepared_10 FX7_17 (WX7_1 _ _) (by assumption) (by exact ⟨by omega, by omega⟩) ?_
  refine wa_aload_n dX7_keepPrepared_13 rfl ?_
  refine wa_bipush dX7_keepPrepared_14 rfl ?_
  refine wa_aload_n dX7_keepPrepared_16 rfl ?_
  refine wt_getI dX7_keepPrepared_17 FX7_21 (by assumption) ?_
  try simp only [vup_s, vup_if, Nat.reduceEqDiff, ↓reduceIte, hk, hz]
  refine wa_iconst dX7_keepPrepared_20 ?_
  refine wa_iadd dX7_keepPrepared_21 ?_
  refine wa_min dX7_keepPrepared_22 LX7_29 (by decide) (Nat.le_of_ble_eq_true rfl) (by exact ⟨by omega, by omega⟩) (by exact ⟨by omega, by omega⟩) ?_
  refine wt_putI dX7_keepPrepared_25 FX7_21 (WX7_2 _ _) (by assumption) (by split <;> exact ⟨by omega, by omega⟩) ?_
  refine wa_return dX7_keepPrepared_28 rfl ?_
  refine ⟨rfl, ?_⟩
  rw [vup_vup, vup_s]
  have e : (if (z : Int) + 1 < 8 then (z : Int) + 1 else 8) = ((if z < 8 then z + 1 else 8 : Nat) : Int) := by split <;> split <;> omega
  rw [e]
/-- what keep leaves: k the slot that was spare -/
def KeepR (I I' : Nat → Nat → Int) (R R' : Nat → Nat → Option Nat) (k z : Nat) : Prop :=
  I' 14 1 = ((k + 1) % 9 : Nat) ∧ I' 14 2 = (if z < 8 then z + 1 else 8 : Nat) ∧ I' (16 + 13 * k) 2 = I 1 2 ∧ I' (17 + 13 * k) 0 = I 2 0 ∧ (∀ i, 1 ≤ i → i ≤ 5 → ∀ t, t < 50 → I' (17 + 13 * k + i) t = I (2 + i) t) ∧ (∀ a, a ≠ 14 → (a < 16 + 13 * k ∨ 22 + 13 * k < a) → I' a = I a) ∧ (∀ q, q < 6 → R' (23 + 13 * k) q = R 8 q) ∧ ∀ a, a ≠ 23 + 13 * k → R' a = R a
theorem LX.cp {R' : Nat → Nat → Option Nat} (h : LX (n, C, N, R)) {k : Nat} (hk : k < 9) (e : ∀ a, a ≠ 23 + 13 * k → R' a = R a) : LX (n, C, N, R') := by
  refine ⟨h.1, h.2.1, fun q hq => ?_⟩
  have h1 : q.1 ≠ 23 + 13 * k := by
    have : ∀ q ∈ lxR, ∀ k, k < 9 → q.1 ≠ 23 + 13 * k := by decide +kernel
    exact this q hq k hk
  show R' q.1 q.2.1 = _
  rw [e q.1 h1]
  exact h.2.2 q hq
theorem LX.cp8 {R' : Nat → Nat → Option Nat} (h : LX (n, C, N, R)) (e : ∀ a, a ≠ 8 → R' a = R a) : LX (n, C, N, R') := by
  refine ⟨h.1, h.2.1, fun q hq => ?_⟩
  have h1 : q.1 ≠ 8 := by
    have : ∀ q ∈ lxR, q.1 ≠ 8 := by decide +kernel
    exact this q hq
  show R' q.1 q.2.1 = _
  rw [e q.1 h1]
  exact h.2.2 q hq
set_option maxRecDepth 20000 in
theorem c_keep (hL : LX (n, C, N, R)) (hp : PRow (n, C, N, R) 1) {k z : Nat} (hk : I 14 1 = (k : Int)) (hk9 : k < 9) (hz : I 14 2 = (z : Int)) (hz8 : z ≤ 8) : tmC yX7_keep kX7_keep 5 0 0 [tR 14, tR 1] ((n, C, N, R), I, L) (fun r h' => r = none ∧ ∃ R' I', h' = ((n, C, N, R'), I', L) ∧ KeepR I I' R R' k z) := by
  refine tmC.mk (lv := [some (tR 14), some (tR 1)]) 0 ⟨rfl, by decide +kernel, by decide⟩ rfl rfl ?_
  have o14 := oX14 hL
  have r14_0 := rX14_0 hL
  refine wa_aload_n dX7_keep_0 rfl ?_
  refine wa_aload_n dX7_keep_1 rfl ?_
  refine wa_callV (ci := 7) dX7_keep_2 KX7_prepare LX7_35 ⟨_, _, rfl, by decide⟩ o14 (c_prepare hL hp hk hk9) (by decide) rfl (Nat.le_of_ble_eq_true rfl) rfl rfl (fun r h' hq => ?_)
  obtain ⟨rfl, R', I', rfl, ⟨e1, e2, e3, e4⟩, e5, e6⟩ := hq
  have f1 : I' 14 1 = (k : Int) := by rw [e4 14 (by omega)]; exact hk
  have f2 : I' 14 2 = (z : Int) := by rw [e4 14 (by omega)]; exact hz
  refine wa_aload_n dX7_keep_5 rfl ?_
  refine wa_callVf (ci := 7) dX7_keep_6 KX7_keepPrepared LX7_38 ⟨_, _, rfl, by decide⟩ (tmObj.r o14) (c_keepPrepared (hL.cp hk9 (fun a ha => e6 a (by omega))) f1 hk9 f2 hz8) (by decide) rfl rfl (Nat.le_of_ble_eq_true rfl) rfl rfl ?_
  refine wa_return dX7_keep_9 rfl ?_
  refine ⟨rfl, R', _, rfl, ?_, ?_, ?_, ?_, ?_, ?_, ?_, ?_⟩
  · simp only [vup_s, vup_if, Nat.reduceEqDiff, ↓reduceIte]
  · simp only [vup_s]
  · rw [vup_n (by omega)]; exact e1
  · rw [vup_n (by omega), show 17 + 13 * k = 16 + 13 * k + 1 by omega]; exact e2
  · intro i i1 i5 t ht
    rw [vup_n (by omega), show 17 + 13 * k + i = 16 + 13 * k + 1 + i by omega]; exact e3 i i1 i5 t ht
  · intro a h1 h2
    rw [vup_n h1]; exact e4 a (by omega)
  · intro q hq
    rw [show 23 + 13 * k = 16 + 13 * k + 7 by omega]; exact e5 q hq
  · intro a ha
    exact e6 a (by omega)
set_option maxRecDepth 20000 in
theorem c_goBack (hL : LX (n, C, N, R)) {k z : Nat} (hk : I 14 1 = (k : Int)) (hk9 : k < 9) (hz : I 14 2 = (z : Int)) (hz0 : 0 < z) (hz8 : z ≤ 8) (hp : PRow (n, C, N, R) (16 + 13 * ((k + 8) % 9))) : tmC yX7_goBack kX7_goBack 4 0 0 [tR 14, tR 1] ((n, C, N, R), I, L) (CpPost n C N R (va_up I 14 (va_up (va_up (I 14) 2 (z - 1 : Nat)) 1 ((k + 8) % 9 : Nat))) L 1 (16 + 13 * ((k + 8) % 9))) := by
  refine tmC.mk (lv := [some (tR 14), some (tR 1)]) 0 ⟨rfl, by decide +kernel, by decide⟩ rfl rfl ?_
  refine wt_ir (fun hI => ?_)
  have o14 := oX14 hL
  have r14_0 := rX14_0 hL
  have o15 := oX15 hL
  have r15_0 := rX15_0 hL
  have r15_1 := rX15_1 hL
  have r15_2 := rX15_2 hL
  have r15_3 := rX15_3 hL
  have r15_4 := rX15_4 hL
  have r15_5 := rX15_5 hL
  have r15_6 := rX15_6 hL
  have r15_7 := rX15_7 hL
  have r15_8 := rX15_8 hL
  have o1 := oX1 hL
  have r1_0 := rX1_0 hL
  have r1_1 := rX1_1 hL
  have r1_3 := rX1_3 hL
  have hm : (k + 8) % 9 < 9 := Nat.mod_lt _ (by decide)
  obtain ⟨hs, hr⟩ := hL.slot _ hm
  refine wa_aload_n dX7_goBack_0 rfl ?_
  refine wt_getI dX7_goBack_1 FX7_21 (by assumption) ?_
  try simp only [vup_s, vup_if, Nat.reduceEqDiff, ↓reduceIte, hk, hz]
  refine wa_if_le 46 dX7_goBack_4 (by decide) (by first | exact hI _ _ | exact ⟨by omega, by omega⟩ | assumption) (fun c_4 => ?_) (fun c_4 => ?_)
  · omega
  · refine wa_aload_n dX7_goBack_7 rfl ?_
    refine wa_dup dX7_goBack_8 rfl ?_
    refine wt_getI dX7_goBack_9 FX7_21 (by assumption) ?_
    try simp only [vup_s, vup_if, Nat.reduceEqDiff, ↓reduceIte, hk, hz]
    refine wa_iconst dX7_goBack_12 ?_
    refine wa_isub dX7_goBack_13 ?_
    refine wt_putI dX7_goBack_14 FX7_21 (WX7_2 _ _) (by assumption) (by exact ⟨by omega, by omega⟩) ?_
    refine wa_aload_n dX7_goBack_17 rfl ?_
    refine wa_aload_n dX7_goBack_18 rfl ?_
    refine wt_getI dX7_goBack_19 FX7_17 (by assumption) ?_
    try simp only [vup_s, vup_if, Nat.reduceEqDiff, ↓reduceIte, hk, hz]
    refine wa_bipush dX7_goBack_22 rfl ?_
    refine wa_iadd dX7_goBack_24 ?_
    refine wa_iconst dX7_goBack_25 ?_
    refine wa_isub dX7_goBack_26 ?_
    rw [show (k : Int) + 9 - 1 = ((k + 8 : Nat) : Int) by omega]
    refine wa_bipush dX7_goBack_27 rfl ?_
    refine wa_irem dX7_goBack_29 (r := (((k + 8) % 9 : Nat) : Int)) (by decide) (tm_rem9 (k + 8) (by omega)) ?_
    refine wt_putI dX7_goBack_30 FX7_17 (WX7_1 _ _) (by assumption) (by exact ⟨by omega, by omega⟩) ?_
    refine wa_aload_n dX7_goBack_33 rfl ?_
    refine wa_aload_n dX7_goBack_34 rfl ?_
    refine wt_getR dX7_goBack_35 FX7_13 (by assumption) (by assumption) ?_
    refine wa_aload_n dX7_goBack_38 rfl ?_
    refine wt_getI dX7_goBack_39 FX7_17 (by assumption) ?_
    try simp only [vup_s, vup_if, Nat.reduceEqDiff, ↓reduceIte, hk, hz]
    refine wt_aaldS ((k + 8) % 9) dX7_goBack_42 (by assumption) rfl (by omega) (by assumption) ?_
    rw [vup_vup, show (z : Int) - 1 = ((z - 1 : Nat) : Int) by omega]
    refine wa_callV (ci := 6) dX7_goBack_43 KX6_copyFrom LX7_25 ⟨_, _, rfl, by decide⟩ o1 (c_Scopy hL.now hs hp (by omega)) (by decide) rfl (Nat.le_of_ble_eq_true rfl) rfl rfl (fun r h' hq => ?_)
    obtain ⟨rfl, R', I', rfl, e⟩ := hq
    refine wa_return dX7_goBack_46 rfl ?_
    exact ⟨rfl, R', I', rfl, e⟩
end S17
