/-! ===== 13: Terms.copyFrom, class Pattern ===== -/
/-- a Terms at T: its rows are T + 1 .. T + 5 -/
def LTer (S : tmS) (T : Nat) : Prop := tmObj S T 8 ∧ S.2.2.2 T 1 = some (T + 1) ∧ S.2.2.2 T 2 = some (T + 2) ∧ S.2.2.2 T 3 = some (T + 3) ∧ S.2.2.2 T 4 = some (T + 4) ∧ S.2.2.2 T 5 = some (T + 5) ∧ tmArr S (T + 1) 13 50 ∧ tmArr S (T + 2) 13 50 ∧ tmArr S (T + 3) 13 50 ∧ tmArr S (T + 4) 13 50 ∧ tmArr S (T + 5) 13 50
/-- the Terms at T1 have become those at T2 -/
def CpT (I I' : Nat → Nat → Int) (T1 T2 : Nat) : Prop := I' T1 0 = I T2 0 ∧ (∀ i, 1 ≤ i → i ≤ 5 → ∀ k, k < 50 → I' (T1 + i) k = I (T2 + i) k) ∧ ∀ a, (a < T1 ∨ T1 + 5 < a) → I' a = I a
/-- a Pattern at p with room m: its rows are p + 1 .. p + 4 -/
def LPat (S : tmS) (p m : Nat) : Prop := tmObj S p 2 ∧ S.2.2.2 p 2 = some (p + 1) ∧ S.2.2.2 p 3 = some (p + 2) ∧ S.2.2.2 p 4 = some (p + 3) ∧ S.2.2.2 p 5 = some (p + 4) ∧ tmArr S (p + 1) 13 m ∧ tmArr S (p + 2) 13 m ∧ tmArr S (p + 3) 13 m ∧ tmArr S (p + 4) 13 m
theorem cpy50 {f g : Nat → Int} {k n : Nat} (h : k < n) : va_cpy f g 0 0 n k = f k := by unfold va_cpy; rw [if_pos ⟨by omega, by omega⟩]; congr 1; omega
section P13
variable {S : tmS} {I : Nat → Nat → Int} {L : Nat → Nat → Int64}
set_option maxRecDepth 20000 in
set_option maxHeartbeats 1000000 in
theorem c_Tcopy {T1 T2 : Nat} (h1 : LTer S T1) (h2 : LTer S T2) (hd : T2 + 5 < T1 ∨ T1 + 5 < T2) : tmC yX8_copyFrom kX8_copyFrom 2 0 0 [tR T1, tR T2] (S, I, L) (fun r h' => r = none ∧ ∃ I', h' = (S, I', L) ∧ CpT I I' T1 T2) := by
  refine tmC.mk (lv := [some (tR T1), some (tR T2)]) 0 ⟨rfl, by decide +kernel, by decide⟩ rfl rfl ?_
  refine wt_ir (fun hI => ?_)
  obtain ⟨a0, a1, a2, a3, a4, a5, b1, b2, b3, b4, b5⟩ := h1
  obtain ⟨e0, e1, e2, e3, e4, e5, f1, f2, f3, f4, f5⟩ := h2
  refine wa_aload_n dX8_copyFrom_0 rfl ?_
  refine wa_aload_n dX8_copyFrom_1 rfl ?_
  refine wt_getI dX8_copyFrom_2 FX8_9 (by assumption) ?_
  refine wt_putI dX8_copyFrom_5 FX8_9 (WX8_0 _ _) (by assumption) (by first | exact hI _ _ | exact ⟨by omega, by omega⟩ | assumption) ?_
  refine wa_aload_n dX8_copyFrom_8 rfl ?_
  refine wt_getR dX8_copyFrom_9 FX8_15 (by assumption) (by assumption) ?_
  refine wa_iconst dX8_copyFrom_12 ?_
  refine wa_aload_n dX8_copyFrom_13 rfl ?_
  refine wt_getR dX8_copyFrom_14 FX8_15 (by assumption) (by assumption) ?_
  refine wa_iconst dX8_copyFrom_17 ?_
  refine wa_bipush dX8_copyFrom_18 rfl ?_
  refine wt_copy dX8_copyFrom_20 LX8_31 Cnat Csta Cini (by assumption) (by assumption) (sp := 0) (dp := 0) (n := 50) rfl rfl rfl (by decide) (by decide) (by decide) (Nat.le_of_ble_eq_true rfl) ?_
  refine wa_aload_n dX8_copyFrom_23 rfl ?_
  refine wt_getR dX8_copyFrom_24 FX8_19 (by assumption) (by assumption) ?_
  refine wa_iconst dX8_copyFrom_27 ?_
  refine wa_aload_n dX8_copyFrom_28 rfl ?_
  refine wt_getR dX8_copyFrom_29 FX8_19 (by assumption) (by assumption) ?_
  refine wa_iconst dX8_copyFrom_32 ?_
  refine wa_bipush dX8_copyFrom_33 rfl ?_
  refine wt_copy dX8_copyFrom_35 LX8_31 Cnat Csta Cini (by assumption) (by assumption) (sp := 0) (dp := 0) (n := 50) rfl rfl rfl (by decide) (by decide) (by decide) (Nat.le_of_ble_eq_true rfl) ?_
  refine wa_aload_n dX8_copyFrom_38 rfl ?_
  refine wt_getR dX8_copyFrom_39 FX8_22 (by assumption) (by assumption) ?_
  refine wa_iconst dX8_copyFrom_42 ?_
  refine wa_aload_n dX8_copyFrom_43 rfl ?_
  refine wt_getR dX8_copyFrom_44 FX8_22 (by assumption) (by assumption) ?_
  refine wa_iconst dX8_copyFrom_47 ?_
  refine wa_bipush dX8_copyFrom_48 rfl ?_
  refine wt_copy dX8_copyFrom_50 LX8_31 Cnat Csta Cini (by assumption) (by assumption) (sp := 0) (dp := 0) (n := 50) rfl rfl rfl (by decide) (by decide) (by decide) (Nat.le_of_ble_eq_true rfl) ?_
  refine wa_aload_n dX8_copyFrom_53 rfl ?_
  refine wt_getR dX8_copyFrom_54 FX8_25 (by assumption) (by assumption) ?_
  refine wa_iconst dX8_copyFrom_57 ?_
  refine wa_aload_n dX8_copyFrom_58 rfl ?_
  refine wt_getR dX8_copyFrom_59 FX8_25 (by assumption) (by assumption) ?_
  refine wa_iconst dX8_copyFrom_62 ?_
  refine wa_bipush dX8_copyFrom_63 rfl ?_
  refine wt_copy dX8_copyFrom_65 LX8_31 Cnat Csta Cini (by assumption) (by assumption) (sp := 0) (dp := 0) (n := 50) rfl rfl rfl (by decide) (by decide) (by decide) (Nat.le_of_ble_eq_true rfl) ?_
  refine wa_aload_n dX8_copyFrom_68 rfl ?_
  refine wt_getR dX8_copyFrom_69 FX8_28 (by assumption) (by assumption) ?_
  refine wa_iconst dX8_copyFrom_72 ?_
  refine wa_aload_n dX8_copyFrom_73 rfl ?_
  refine wt_getR dX8_copyFrom_74 FX8_28 (by assumption) (by assumption) ?_
  refine wa_iconst dX8_copyFrom_77 ?_
  refine wa_bipush dX8_copyFrom_78 rfl ?_
  refine wt_copy dX8_copyFrom_80 LX8_31 Cnat Csta Cini (by assumption) (by assumption) (sp := 0) (dp := 0) (n := 50) rfl rfl rfl (by decide) (by decide) (by decide) (Nat.le_of_ble_eq_true rfl) ?_
  refine wa_return dX8_copyFrom_83 rfl ?_
  refine ⟨rfl, _, rfl, ?_, ?_, ?_⟩
  · simp (disch := omega) only [vup_n, vup_s]
  · intro i i1 i5 k hk
    obtain rfl | rfl | rfl | rfl | rfl : i = 1 ∨ i = 2 ∨ i = 3 ∨ i = 4 ∨ i = 5 := by omega
    all_goals simp (disch := omega) only [vup_n, vup_s, cpy50 hk]
  · intro a ha
    simp (disch := omega) only [vup_n]
theorem LPat.o {p m : Nat} (h : LPat S p m) : tmObj S p 2 := h.1
def tmStageOf (sz : Nat) (sta : Nat → Int) (x : Int) : Int := if 0 ≤ x ∧ x < sz then sta x.toNat else 0
set_option maxRecDepth 20000 in
theorem c_stageOf {p m sz : Nat} (hp : LPat S p m) (hs : I p 0 = (sz : Int)) (hsm : sz ≤ m) (x : Int) (hx : inR x) : tmC yX2_stageOf kX2_stageOf 1 0 0 [tR p, tI x] (S, I, L) (tmF (some (tI (tmStageOf sz (I (p + 4)) x))) (S, I, L)) := by
  refine tmC.mk (lv := [some (tR p), some (tI x)]) 0 ⟨rfl, by decide +kernel, by decide⟩ rfl rfl ?_
  refine wt_ir (fun hI => ?_)
  obtain ⟨a0, a1, a2, a3, a4, b1, b2, b3, b4⟩ := hp
  refine wa_iload_n dX2_stageOf_0 rfl ?_
  refine wa_if_lt 21 dX2_stageOf_1 (by decide) (by first | exact hI _ _ | exact ⟨by omega, by omega⟩ | assumption) (fun c_1 => ?_) (fun c_1 => ?_)
  · refine wa_iconst dX2_stageOf_21 ?_
    refine wa_ireturn dX2_stageOf_22 rfl ?_
    exact ⟨by first | rw [tmStageOf, if_pos (by omega)] | rw [tmStageOf, if_neg (by omega)], rfl⟩
  · refine wa_iload_n dX2_stageOf_4 rfl ?_
    refine wa_aload_n dX2_stageOf_5 rfl ?_
    refine wt_getI dX2_stageOf_6 FX2_9 (by assumption) ?_
    refine wa_icmp_ge 21 dX2_stageOf_9 (by decide) (by first | exact hI _ _ | exact ⟨by omega, by omega⟩ | assumption) (by first | exact hI _ _ | exact ⟨by omega, by omega⟩ | assumption) (fun c_9 => ?_) (fun c_9 => ?_)
    · refine wa_iconst dX2_stageOf_21 ?_
      refine wa_ireturn dX2_stageOf_22 rfl ?_
      exact ⟨by first | rw [tmStageOf, if_pos (by omega)] | rw [tmStageOf, if_neg (by omega)], rfl⟩
    · refine wa_aload_n dX2_stageOf_12 rfl ?_
      refine wt_getR dX2_stageOf_13 FX2_34 (by assumption) (by assumption) ?_
      refine wa_iload_n dX2_stageOf_16 rfl ?_
      refine wt_iald x.toNat dX2_stageOf_17 (by assumption) (by omega) (by omega) ?_
      refine wa_goto 22 dX2_stageOf_18 (by decide) ?_
      refine wa_ireturn dX2_stageOf_22 rfl ?_
      exact ⟨by first | rw [tmStageOf, if_pos (by omega)] | rw [tmStageOf, if_neg (by omega)], rfl⟩
set_option maxRecDepth 20000 in
theorem c_isLetter {p m sz : Nat} (hp : LPat S p m) (hs : I p 0 = (sz : Int)) (hsm : sz ≤ m) (x l : Int) (hx : inR x) (hl : 0 ≤ l ∧ l < 3) : tmC yX2_isLetter kX2_isLetter 1 0 0 [tR p, tI x, tI l] (S, I, L) (tmF (some (tI (if 0 ≤ x ∧ x < sz ∧ I (p + 1) x.toNat = 7 + l then 1 else 0))) (S, I, L)) := by
  refine tmC.mk (lv := [some (tR p), some (tI x), some (tI l)]) 0 ⟨rfl, by decide +kernel, by decide⟩ rfl rfl ?_
  refine wt_ir (fun hI => ?_)
  obtain ⟨a0, a1, a2, a3, a4, b1, b2, b3, b4⟩ := hp
  refine wa_iload_n dX2_isLetter_0 rfl ?_
  refine wa_if_lt 29 dX2_isLetter_1 (by decide) (by first | exact hI _ _ | exact ⟨by omega, by omega⟩ | assumption) (fun c_1 => ?_) (fun c_1 => ?_)
  · refine wa_iconst dX2_isLetter_29 ?_
    refine wa_zreturn dX2_isLetter_30 rfl (by first | exact Or.inl rfl | exact Or.inr rfl) ?_
    exact ⟨by first | rw [if_pos ⟨by omega, by omega, by assumption⟩] | rw [if_neg (fun z => by omega)], rfl⟩
  · refine wa_iload_n dX2_isLetter_4 rfl ?_
    refine wa_aload_n dX2_isLetter_5 rfl ?_
    refine wt_getI dX2_isLetter_6 FX2_9 (by assumption) ?_
    refine wa_icmp_ge 29 dX2_isLetter_9 (by decide) (by first | exact hI _ _ | exact ⟨by omega, by omega⟩ | assumption) (by first | exact hI _ _ | exact ⟨by omega, by omega⟩ | assumption) (fun c_9 => ?_) (fun c_9 => ?_)
    · refine wa_iconst dX2_isLetter_29 ?_
      refine wa_zreturn dX2_isLetter_30 rfl (by first | exact Or.inl rfl | exact Or.inr rfl) ?_
      exact ⟨by first | rw [if_pos ⟨by omega, by omega, by assumption⟩] | rw [if_neg (fun z => by omega)], rfl⟩
    · refine wa_aload_n dX2_isLetter_12 rfl ?_
      refine wt_getR dX2_isLetter_13 FX2_24 (by assumption) (by assumption) ?_
      refine wa_iload_n dX2_isLetter_16 rfl ?_
      refine wt_iald x.toNat dX2_isLetter_17 (by assumption) (by omega) (by omega) ?_
      refine wa_bipush dX2_isLetter_18 rfl ?_
      refine wa_iload_n dX2_isLetter_20 rfl ?_
      refine wa_iadd dX2_isLetter_21 ?_
      refine wa_icmp_ne 29 dX2_isLetter_22 (by decide) (by first | exact hI _ _ | exact ⟨by omega, by omega⟩ | assumption) (by first | exact hI _ _ | exact ⟨by omega, by omega⟩ | assumption) (fun c_22 => ?_) (fun c_22 => ?_)
      · refine wa_iconst dX2_isLetter_29 ?_
        refine wa_zreturn dX2_isLetter_30 rfl (by first | exact Or.inl rfl | exact Or.inr rfl) ?_
        exact ⟨by first | rw [if_pos ⟨by omega, by omega, by assumption⟩] | rw [if_neg (fun z => by omega)], rfl⟩
      · refine wa_iconst dX2_isLetter_25 ?_
        refine wa_goto 30 dX2_isLetter_26 (by decide) ?_
        refine wa_zreturn dX2_isLetter_30 rfl (by first | exact Or.inl rfl | exact Or.inr rfl) ?_
        exact ⟨by first | rw [if_pos ⟨by omega, by omega, by assumption⟩] | rw [if_neg (fun z => by omega)], rfl⟩
def tmLet (sg : Nat → Int) : Nat → Nat → Nat → Nat
  | 0, _, m => m
  | k + 1, i, m => tmLet sg k (i + 1) (if 7 ≤ sg i then m ||| 1 <<< (sg i - 7).toNat else m)
theorem tm_or8 : ∀ m, m < 8 → ∀ j, j < 3 → Int32.ofInt (m : Nat) ||| (Int32.ofInt 1 <<< (Int32.ofInt (j : Nat) &&& 31)) = Int32.ofInt ((m ||| 1 <<< j : Nat)) ∧ m ||| 1 <<< j < 8 := by decide
theorem tm_shl3 : ∀ j, j < 3 → Int32.ofInt 1 <<< (Int32.ofInt (j : Nat) &&& 31) = Int32.ofInt ((1 <<< j : Nat)) := by decide
theorem tm_orN : ∀ m, m < 8 → ∀ j, j < 3 → Int32.ofInt (m : Nat) ||| Int32.ofInt ((1 <<< j : Nat)) = Int32.ofInt ((m ||| 1 <<< j : Nat)) := by decide
set_option maxRecDepth 20000 in
theorem lettersIn_loop {p m sz : Nat} (hp : LPat S p m) (hs : I p 0 = (sz : Int)) (hsm : sz ≤ m) (hm : m ≤ 120) (fr : Int) (to : Nat) (hto : to ≤ sz) (hsg : ∀ i, i < sz → 0 ≤ I (p + 1) i ∧ I (p + 1) i ≤ 9) : ∀ (k i s : Nat), i + k = to → s < 8 →
    tmW kX2_lettersIn 1 0 0 5 [some (tR p), some (tI fr), some (tI to), some (tI s), some (tI i)] [] (S, I, L) (tmF (some (tI ((tmLet (I (p + 1)) k i s : Nat) : Int))) (S, I, L)) := by
  intro k
  obtain ⟨a0, a1, a2, a3, a4, b1, b2, b3, b4⟩ := hp
  induction k with
  | zero =>
    intro i s hi hs8
    refine wt_ir (fun hI => ?_)
    refine wa_iload dX2_lettersIn_5 rfl ?_
    refine wa_iload_n dX2_lettersIn_7 rfl ?_
    refine wa_icmp_ge 53 dX2_lettersIn_8 (by decide) (by first | exact hI _ _ | exact ⟨by omega, by omega⟩ | assumption) (by first | exact hI _ _ | exact ⟨by omega, by omega⟩ | assumption) (fun c_8 => ?_) (fun c_8 => ?_)
    · refine wa_iload_n dX2_lettersIn_53 rfl ?_
      refine wa_ireturn dX2_lettersIn_54 rfl ?_
      exact ⟨rfl, rfl⟩
    · omega
  | succ k ih =>
    intro i s hi hs8
    refine wt_ir (fun hI => ?_)
    have h9 := hsg i (by omega)
    have ih0 := ih (i + 1) s (by omega) hs8
    refine wa_iload dX2_lettersIn_5 rfl ?_
    refine wa_iload_n dX2_lettersIn_7 rfl ?_
    refine wa_icmp_ge 53 dX2_lettersIn_8 (by decide) (by first | exact hI _ _ | exact ⟨by omega, by omega⟩ | assumption) (by first | exact hI _ _ | exact ⟨by omega, by omega⟩ | assumption) (fun c_8 => ?_) (fun c_8 => ?_)
    · omega
    · refine wa_iload dX2_lettersIn_11 rfl ?_
      refine wa_aload_n dX2_lettersIn_13 rfl ?_
      refine wt_getI dX2_lettersIn_14 FX2_9 (by assumption) ?_
      refine wa_icmp_ge 53 dX2_lettersIn_17 (by decide) (by first | exact hI _ _ | exact ⟨by omega, by omega⟩ | assumption) (by first | exact hI _ _ | exact ⟨by omega, by omega⟩ | assumption) (fun c_17 => ?_) (fun c_17 => ?_)
      · omega
      · refine wa_aload_n dX2_lettersIn_20 rfl ?_
        refine wt_getR dX2_lettersIn_21 FX2_24 (by assumption) (by assumption) ?_
        refine wa_iload dX2_lettersIn_24 rfl ?_
        refine wt_iald _ dX2_lettersIn_26 (by assumption) rfl (by omega) ?_
        refine wa_bipush dX2_lettersIn_27 rfl ?_
        refine wa_icmp_lt 47 dX2_lettersIn_29 (by decide) (by first | exact hI _ _ | exact ⟨by omega, by omega⟩ | assumption) (by first | exact hI _ _ | exact ⟨by omega, by omega⟩ | assumption) (fun c_29 => ?_) (fun c_29 => ?_)
        · rw [tmLet, if_neg (by omega)]
          refine wa_iinc dX2_lettersIn_47 rfl (by decide) ?_
          refine wa_goto 5 dX2_lettersIn_50 (by decide) ?_
          first | exact ih1 | exact ih0
        · rw [tmLet, if_pos (by omega)]
          obtain ⟨j, hj3, hj⟩ : ∃ j : Nat, j < 3 ∧ I (p + 1) i = 7 + j := ⟨(I (p + 1) i - 7).toNat, by omega, by omega⟩
          have ej : (I (p + 1) i - 7).toNat = j := by omega
          have ih1 := ih (i + 1) (s ||| 1 <<< j) (by omega) (tm_or8 s hs8 j hj3).2
          rw [ej]
          refine wa_iload_n dX2_lettersIn_32 rfl ?_
          refine wa_iconst dX2_lettersIn_33 ?_
          refine wa_aload_n dX2_lettersIn_34 rfl ?_
          refine wt_getR dX2_lettersIn_35 FX2_24 (by assumption) (by assumption) ?_
          refine wa_iload dX2_lettersIn_38 rfl ?_
          refine wt_iald _ dX2_lettersIn_40 (by assumption) rfl (by omega) ?_
          refine wa_bipush dX2_lettersIn_41 rfl ?_
          refine wa_isub dX2_lettersIn_43 ?_
          refine wa_ishl dX2_lettersIn_44 (r := ((1 <<< j : Nat) : Int)) (by rw [show I (p + 1) i - 7 = (j : Int) by omega]; exact tm_shl3 j hj3) ?_
          refine wa_ior dX2_lettersIn_45 (r := ((s ||| 1 <<< j : Nat) : Int)) (tm_orN s hs8 j hj3) ?_
          refine wa_istore_n dX2_lettersIn_46 (by decide) ?_
          refine wa_iinc dX2_lettersIn_47 rfl (by decide) ?_
          refine wa_goto 5 dX2_lettersIn_50 (by decide) ?_
          first | exact ih1 | exact ih0
set_option maxRecDepth 20000 in
theorem c_lettersIn {p m sz : Nat} (hp : LPat S p m) (hs : I p 0 = (sz : Int)) (hsm : sz ≤ m) (hm : m ≤ 120) (fr to : Nat) (hft : fr ≤ to) (hto : to ≤ sz) (hsg : ∀ i, i < sz → 0 ≤ I (p + 1) i ∧ I (p + 1) i ≤ 9) : tmC yX2_lettersIn kX2_lettersIn 1 0 0 [tR p, tI fr, tI to] (S, I, L) (tmF (some (tI ((tmLet (I (p + 1)) (to - fr) fr 0 : Nat) : Int))) (S, I, L)) := by
  refine tmC.mk (lv := [some (tR p), some (tI fr), some (tI to), none, none]) 2 ⟨rfl, by decide +kernel, by decide⟩ rfl rfl ?_
  refine wa_iconst dX2_lettersIn_0 ?_
  refine wa_istore_n dX2_lettersIn_1 (by decide) ?_
  refine wa_iload_n dX2_lettersIn_2 rfl ?_
  refine wa_istore dX2_lettersIn_3 (by decide) ?_
  exact lettersIn_loop hp hs hsm hm fr to hto hsg (to - fr) fr 0 (by omega) (by omega)
set_option maxRecDepth 20000 in
theorem signsIn_loop {p m sz : Nat} (hp : LPat S p m) (hs : I p 0 = (sz : Int)) (hsm : sz ≤ m) (hm : m ≤ 120) (fr : Int) (to : Nat) (hto : to ≤ sz) : ∀ (k i c : Nat), i + k = to → c ≤ i →
    tmW kX2_signsIn 1 0 0 5 [some (tR p), some (tI fr), some (tI to), some (tI c), some (tI i)] [] (S, I, L) (tmF (some (tI ((c + tmCnt (fun i => I (p + 1) i < 7) k i : Nat) : Int))) (S, I, L)) := by
  intro k
  obtain ⟨a0, a1, a2, a3, a4, b1, b2, b3, b4⟩ := hp
  induction k with
  | zero =>
    intro i c hi hc
    refine wt_ir (fun hI => ?_)
    refine wa_iload dX2_signsIn_5 rfl ?_
    refine wa_iload_n dX2_signsIn_7 rfl ?_
    refine wa_icmp_ge 41 dX2_signsIn_8 (by decide) (by first | exact hI _ _ | exact ⟨by omega, by omega⟩ | assumption) (by first | exact hI _ _ | exact ⟨by omega, by omega⟩ | assumption) (fun c_8 => ?_) (fun c_8 => ?_)
    · refine wa_iload_n dX2_signsIn_41 rfl ?_
      refine wa_ireturn dX2_signsIn_42 rfl ?_
      exact ⟨rfl, rfl⟩
    · omega
  | succ k ih =>
    intro i c hi hc
    refine wt_ir (fun hI => ?_)
    have ih1 := ih (i + 1) (c + 1) (by omega) (by omega)
    have ih0 := ih (i + 1) c (by omega) (by omega)
    refine wa_iload dX2_signsIn_5 rfl ?_
    refine wa_iload_n dX2_signsIn_7 rfl ?_
    refine wa_icmp_ge 41 dX2_signsIn_8 (by decide) (by first | exact hI _ _ | exact ⟨by omega, by omega⟩ | assumption) (by first | exact hI _ _ | exact ⟨by omega, by omega⟩ | assumption) (fun c_8 => ?_) (fun c_8 => ?_)
    · omega
    · refine wa_iload dX2_signsIn_11 rfl ?_
      refine wa_aload_n dX2_signsIn_13 rfl ?_
      refine wt_getI dX2_signsIn_14 FX2_9 (by assumption) ?_
      refine wa_icmp_ge 41 dX2_signsIn_17 (by decide) (by first | exact hI _ _ | exact ⟨by omega, by omega⟩ | assumption) (by first | exact hI _ _ | exact ⟨by omega, by omega⟩ | assumption) (fun c_17 => ?_) (fun c_17 => ?_)
      · omega
      · refine wa_aload_n dX2_signsIn_20 rfl ?_
        refine wt_getR dX2_signsIn_21 FX2_24 (by assumption) (by assumption) ?_
        refine wa_iload dX2_signsIn_24 rfl ?_
        refine wt_iald _ dX2_signsIn_26 (by assumption) rfl (by omega) ?_
        refine wa_bipush dX2_signsIn_27 rfl ?_
        refine wa_icmp_ge 35 dX2_signsIn_29 (by decide) (by first | exact hI _ _ | exact ⟨by omega, by omega⟩ | assumption) (by first | exact hI _ _ | exact ⟨by omega, by omega⟩ | assumption) (fun c_29 => ?_) (fun c_29 => ?_)
        · rw [tmCnt, if_neg (by omega), Nat.zero_add]
          refine wa_iinc dX2_signsIn_35 rfl (by decide) ?_
          refine wa_goto 5 dX2_signsIn_38 (by decide) ?_
          first | exact ih1 | exact ih0
        · rw [tmCnt, if_pos (by omega), ← Nat.add_assoc]
          refine wa_iinc dX2_signsIn_32 rfl (by decide) ?_
          refine wa_iinc dX2_signsIn_35 rfl (by decide) ?_
          refine wa_goto 5 dX2_signsIn_38 (by decide) ?_
          first | exact ih1 | exact ih0
set_option maxRecDepth 20000 in
theorem c_signsIn {p m sz : Nat} (hp : LPat S p m) (hs : I p 0 = (sz : Int)) (hsm : sz ≤ m) (hm : m ≤ 120) (fr to : Nat) (hft : fr ≤ to) (hto : to ≤ sz) : tmC yX2_signsIn kX2_signsIn 1 0 0 [tR p, tI fr, tI to] (S, I, L) (tmF (some (tI ((tmCnt (fun i => I (p + 1) i < 7) (to - fr) fr : Nat) : Int))) (S, I, L)) := by
  refine tmC.mk (lv := [some (tR p), some (tI fr), some (tI to), none, none]) 2 ⟨rfl, by decide +kernel, by decide⟩ rfl rfl ?_
  refine wa_iconst dX2_signsIn_0 ?_
  refine wa_istore_n dX2_signsIn_1 (by decide) ?_
  refine wa_iload_n dX2_signsIn_2 rfl ?_
  refine wa_istore dX2_signsIn_3 (by decide) ?_
  have lp := signsIn_loop (L := L) hp hs hsm hm fr to hto (to - fr) fr 0 (by omega) (by omega)
  rw [Nat.zero_add] at lp
  exact lp
set_option maxRecDepth 20000 in
theorem c_Pempty {p m : Nat} (hp : LPat S p m) : tmC yX2_empty kX2_empty 1 0 0 [tR p] (S, I, L) (tmF none (S, va_up I p (va_up (va_up (I p) 0 0) 1 0), L)) := by
  refine tmC.mk (lv := [some (tR p)]) 0 ⟨rfl, by decide +kernel, by decide⟩ rfl rfl ?_
  obtain ⟨a0, a1, a2, a3, a4, b1, b2, b3, b4⟩ := hp
  refine wa_aload_n dX2_empty_0 rfl ?_
  refine wa_iconst dX2_empty_1 ?_
  refine wt_putI dX2_empty_2 FX2_9 (WX2_0 _ _) (by assumption) (by exact ⟨by omega, by omega⟩) ?_
  refine wa_aload_n dX2_empty_5 rfl ?_
  refine wa_iconst dX2_empty_6 ?_
  refine wt_putI dX2_empty_7 FX2_15 (WX2_1 _ _) (by assumption) (by exact ⟨by omega, by omega⟩) ?_
  refine wa_return dX2_empty_10 rfl ?_
  exact ⟨rfl, by rw [vup_vup, vup_s]⟩
/-- what add makes of a Pattern's rows -/
def tmPadd (I : Nat → Nat → Int) (p sz : Nat) (s a b : Int) : Nat → Nat → Int :=
  va_up (va_up (va_up (va_up (va_up I (p + 1) (va_up (I (p + 1)) sz s)) (p + 2) (va_up (I (p + 2)) sz a)) (p + 3) (va_up (I (p + 3)) sz b)) (p + 4) (va_up (I (p + 4)) sz (if 7 ≤ s then s - 6 else (if tmStageOf sz (I (p + 4)) a < tmStageOf sz (I (p + 4)) b then tmStageOf sz (I (p + 4)) b else tmStageOf sz (I (p + 4)) a)))) p (va_up (I p) 0 (sz + 1 : Nat))
set_option maxRecDepth 20000 in
set_option maxHeartbeats 1000000 in
theorem c_Padd {p m sz : Nat} (hp : LPat S p m) (hs : I p 0 = (sz : Int)) (hsm : sz < m) (hm : m ≤ 120) (s a b : Int) (hsr : 0 ≤ s ∧ s ≤ 9) (ha : inR a) (hb : inR b) : tmC yX2_add kX2_add 2 0 0 [tR p, tI s, tI a, tI b] (S, I, L) (tmF (some (tI sz)) (S, tmPadd I p sz s a b, L)) := by
  refine tmC.mk (lv := [some (tR p), some (tI s), some (tI a), some (tI b)]) 0 ⟨rfl, by decide +kernel, by decide⟩ rfl rfl ?_
  refine wt_ir (fun hI => ?_)
  have hp0 := hp
  obtain ⟨a0, a1, a2, a3, a4, b1, b2, b3, b4⟩ := hp
  have hst : ∀ x, inR (tmStageOf sz (I (p + 4)) x) := by intro x; unfold tmStageOf; split; exact hI _ _; exact ⟨by omega, by omega⟩
  have e0 : ∀ x, tmStageOf sz (va_up (va_up (va_up I (p + 1) (va_up (I (p + 1)) sz s)) (p + 2) (va_up (I (p + 2)) sz a)) (p + 3) (va_up (I (p + 3)) sz b) (p + 4)) x = tmStageOf sz (I (p + 4)) x := by
    intro x; congr 1; simp (disch := omega) only [vup_n]
  refine wa_aload_n dX2_add_0 rfl ?_
  refine wt_getI dX2_add_1 FX2_9 (by assumption) ?_
  try simp (disch := omega) only [vup_n, vup_s, hs]
  refine wa_aload_n dX2_add_4 rfl ?_
  refine wt_getR dX2_add_5 FX2_24 (by assumption) (by assumption) ?_
  refine wt_alen dX2_add_8 (by assumption) (by first | exact Or.inl rfl | exact Or.inr rfl) ?_
  refine wa_icmp_lt 14 dX2_add_9 (by decide) (by first | exact hI _ _ | exact ⟨by omega, by omega⟩ | assumption) (by first | exact hI _ _ | exact ⟨by omega, by omega⟩ | assumption) (fun c_9 => ?_) (fun c_9 => ?_)
  · refine wa_aload_n dX2_add_14 rfl ?_
    try simp (disch := omega) only [vup_n]
    refine wt_getR dX2_add_15 FX2_24 (by assumption) (by assumption) ?_
    refine wa_aload_n dX2_add_18 rfl ?_
    refine wt_getI dX2_add_19 FX2_9 (by assumption) ?_
    try simp (disch := omega) only [vup_n, vup_s, hs]
    refine wa_iload_n dX2_add_22 rfl ?_
    refine wt_iast _ dX2_add_23 (by assumption) rfl (by omega) (by first | exact hI _ _ | exact ⟨by omega, by omega⟩ | assumption) ?_
    refine wa_aload_n dX2_add_24 rfl ?_
    try simp (disch := omega) only [vup_n]
    refine wt_getR dX2_add_25 FX2_28 (by assumption) (by assumption) ?_
    refine wa_aload_n dX2_add_28 rfl ?_
    refine wt_getI dX2_add_29 FX2_9 (by assumption) ?_
    try simp (disch := omega) only [vup_n, vup_s, hs]
    refine wa_iload_n dX2_add_32 rfl ?_
    refine wt_iast _ dX2_add_33 (by assumption) rfl (by omega) (by first | exact hI _ _ | exact ⟨by omega, by omega⟩ | assumption) ?_
    refine wa_aload_n dX2_add_34 rfl ?_
    try simp (disch := omega) only [vup_n]
    refine wt_getR dX2_add_35 FX2_31 (by assumption) (by assumption) ?_
    refine wa_aload_n dX2_add_38 rfl ?_
    refine wt_getI dX2_add_39 FX2_9 (by assumption) ?_
    try simp (disch := omega) only [vup_n, vup_s, hs]
    refine wa_iload_n dX2_add_42 rfl ?_
    refine wt_iast _ dX2_add_43 (by assumption) rfl (by omega) (by first | exact hI _ _ | exact ⟨by omega, by omega⟩ | assumption) ?_
    refine wa_aload_n dX2_add_44 rfl ?_
    try simp (disch := omega) only [vup_n]
    refine wt_getR dX2_add_45 FX2_34 (by assumption) (by assumption) ?_
    refine wa_aload_n dX2_add_48 rfl ?_
    refine wt_getI dX2_add_49 FX2_9 (by assumption) ?_
    try simp (disch := omega) only [vup_n, vup_s, hs]
    refine wa_iload_n dX2_add_52 rfl ?_
    refine wa_bipush dX2_add_53 rfl ?_
    refine wa_icmp_lt 67 dX2_add_55 (by decide) (by first | exact hI _ _ | exact ⟨by omega, by omega⟩ | assumption) (by first | exact hI _ _ | exact ⟨by omega, by omega⟩ | assumption) (fun c_55 => ?_) (fun c_55 => ?_)
    · refine wa_aload_n dX2_add_67 rfl ?_
      refine wa_iload_n dX2_add_68 rfl ?_
      refine wa_callVf (ci := 2) dX2_add_69 KX2_stageOf LX2_37 ⟨_, _, rfl, by decide⟩ (by assumption) (by have := c_stageOf (L := L) (I := va_up (va_up (va_up I (p + 1) (va_up (I (p + 1)) sz s)) (p + 2) (va_up (I (p + 2)) sz a)) (p + 3) (va_up (I (p + 3)) sz b)) hp0 (sz := sz) (by simp (disch := omega) only [vup_n]; exact hs) (by omega) a ha; rw [e0] at this; exact this) (by decide) rfl rfl (Nat.le_of_ble_eq_true rfl) rfl rfl ?_
      refine wa_aload_n dX2_add_72 rfl ?_
      refine wa_iload_n dX2_add_73 rfl ?_
      refine wa_callVf (ci := 2) dX2_add_74 KX2_stageOf LX2_37 ⟨_, _, rfl, by decide⟩ (by assumption) (by have := c_stageOf (L := L) (I := va_up (va_up (va_up I (p + 1) (va_up (I (p + 1)) sz s)) (p + 2) (va_up (I (p + 2)) sz a)) (p + 3) (va_up (I (p + 3)) sz b)) hp0 (sz := sz) (by simp (disch := omega) only [vup_n]; exact hs) (by omega) b hb; rw [e0] at this; exact this) (by decide) rfl rfl (Nat.le_of_ble_eq_true rfl) rfl rfl ?_
      refine wa_max dX2_add_77 LX2_18 (by decide) (Nat.le_of_ble_eq_true rfl) (by exact hst _) (by exact hst _) ?_
      refine wt_iast _ dX2_add_80 (by assumption) rfl (by omega) (by first | exact ⟨by omega, by omega⟩ | (split <;> exact hst _)) ?_
      refine wa_aload_n dX2_add_81 rfl ?_
      refine wa_dup dX2_add_82 rfl ?_
      refine wt_getI dX2_add_83 FX2_9 (by assumption) ?_
      try simp (disch := omega) only [vup_n, vup_s, hs]
      refine wa_iconst dX2_add_86 ?_
      refine wa_iadd dX2_add_87 ?_
      refine wt_putI dX2_add_88 FX2_9 (WX2_0 _ _) (by assumption) (by first | exact hI _ _ | exact ⟨by omega, by omega⟩ | assumption) ?_
      refine wa_aload_n dX2_add_91 rfl ?_
      refine wt_getI dX2_add_92 FX2_9 (by assumption) ?_
      try simp (disch := omega) only [vup_n, vup_s, hs]
      refine wa_iconst dX2_add_95 ?_
      refine wa_isub dX2_add_96 ?_
      refine wa_ireturn dX2_add_97 rfl ?_
      refine ⟨by congr 2; omega, ?_⟩
      unfold tmPadd
      first | rw [if_pos (show 7 ≤ s by omega)] | rw [if_neg (show ¬ 7 ≤ s by omega)]
      try simp (disch := omega) only [vup_n]
      try rw [show s - 7 + 1 = s - 6 by omega]
      rfl
    · refine wa_iload_n dX2_add_58 rfl ?_
      refine wa_bipush dX2_add_59 rfl ?_
      refine wa_isub dX2_add_61 ?_
      refine wa_iconst dX2_add_62 ?_
      refine wa_iadd dX2_add_63 ?_
      refine wa_goto 80 dX2_add_64 (by decide) ?_
      refine wt_iast _ dX2_add_80 (by assumption) rfl (by omega) (by first | exact ⟨by omega, by omega⟩ | (split <;> exact hst _)) ?_
      refine wa_aload_n dX2_add_81 rfl ?_
      refine wa_dup dX2_add_82 rfl ?_
      refine wt_getI dX2_add_83 FX2_9 (by assumption) ?_
      try simp (disch := omega) only [vup_n, vup_s, hs]
      refine wa_iconst dX2_add_86 ?_
      refine wa_iadd dX2_add_87 ?_
      refine wt_putI dX2_add_88 FX2_9 (WX2_0 _ _) (by assumption) (by first | exact hI _ _ | exact ⟨by omega, by omega⟩ | assumption) ?_
      refine wa_aload_n dX2_add_91 rfl ?_
      refine wt_getI dX2_add_92 FX2_9 (by assumption) ?_
      try simp (disch := omega) only [vup_n, vup_s, hs]
      refine wa_iconst dX2_add_95 ?_
      refine wa_isub dX2_add_96 ?_
      refine wa_ireturn dX2_add_97 rfl ?_
      refine ⟨by congr 2; omega, ?_⟩
      unfold tmPadd
      first | rw [if_pos (show 7 ≤ s by omega)] | rw [if_neg (show ¬ 7 ≤ s by omega)]
      try simp (disch := omega) only [vup_n]
      try rw [show s - 7 + 1 = s - 6 by omega]
      rfl
  · omega
/-- below n0 nothing has changed -/
def tmFr (n0 : Nat) (h h' : tmH) : Prop := ∀ a, a < n0 → h'.1.2.1 a = h.1.2.1 a ∧ h'.1.2.2.1 a = h.1.2.2.1 a ∧ h'.1.2.2.2 a = h.1.2.2.2 a ∧ h'.2.1 a = h.2.1 a ∧ h'.2.2 a = h.2.2 a
set_option maxRecDepth 20000 in
set_option maxHeartbeats 2000000 in
theorem c_Pinit {p m : Nat} (hp : tmObj S p 2) (hp1 : S.1 = p + 1) (hm : m ≤ 120) : tmC yX2_init kX2_init 2 4 (4 * m) [tR p, tI m] (S, I, L) (fun r h' => r = none ∧ tmFr p (S, I, L) h' ∧ h'.1.1 = p + 5 ∧ LPat h'.1 p m ∧ h'.2.1 p 0 = 0 ∧ h'.2.1 p 1 = 0) := by
  refine tmC.mk (lv := [some (tR p), some (tI m), none]) 1 ⟨rfl, by decide +kernel, by decide⟩ rfl rfl ?_
  refine wt_ir (fun hI => ?_)
  have hk := hp.2
  refine wa_budget (bc' := 4) (bs' := 0 + m + m + m + m) (by omega) (by omega) ?_
  have e0 : (if (0 : Int) < (m : Int) then (m : Int) else 0) = (m : Int) := by split <;> omega
  refine wa_aload_n dX2_init_0 rfl ?_
  refine wa_objInit dX2_init_1 LX2_3 Oinst Ocode (by decide) (Nat.le_of_ble_eq_true rfl) ?_
  refine wa_aload_n dX2_init_4 rfl ?_
  refine wa_iconst dX2_init_5 ?_
  refine wt_putI dX2_init_6 FX2_9 (WX2_0 _ _) (by assumption) (by exact ⟨by omega, by omega⟩) ?_
  refine wa_aload_n dX2_init_9 rfl ?_
  refine wa_iconst dX2_init_10 ?_
  refine wt_putI dX2_init_11 FX2_15 (WX2_1 _ _) (by assumption) (by exact ⟨by omega, by omega⟩) ?_
  refine wa_iconst dX2_init_14 ?_
  refine wa_iload_n dX2_init_15 rfl ?_
  refine wa_max dX2_init_16 LX2_18 (by decide) (Nat.le_of_ble_eq_true rfl) (by exact ⟨by omega, by omega⟩) (by exact ⟨by omega, by omega⟩) ?_
  rw [e0]
  refine wa_istore_n dX2_init_19 (by decide) ?_
  refine wa_aload_n dX2_init_20 rfl ?_
  refine wa_iload_n dX2_init_21 rfl ?_
  refine wa_newaI dX2_init_22 Aint rfl (by omega) rfl rfl ?_
  refine wt_putR dX2_init_24 FX2_24 WX2_2 (by constructor <;> simp (disch := omega) [tmNew, vup_n, hk] <;> omega) ?_
  refine wa_aload_n dX2_init_27 rfl ?_
  refine wa_iload_n dX2_init_28 rfl ?_
  refine wa_newaI dX2_init_29 Aint rfl (by omega) rfl rfl ?_
  refine wt_putR dX2_init_31 FX2_28 WX2_3 (by constructor <;> simp (disch := omega) [tmNew, vup_n, hk] <;> omega) ?_
  refine wa_aload_n dX2_init_34 rfl ?_
  refine wa_iload_n dX2_init_35 rfl ?_
  refine wa_newaI dX2_init_36 Aint rfl (by omega) rfl rfl ?_
  refine wt_putR dX2_init_38 FX2_31 WX2_4 (by constructor <;> simp (disch := omega) [tmNew, vup_n, hk] <;> omega) ?_
  refine wa_aload_n dX2_init_41 rfl ?_
  refine wa_iload_n dX2_init_42 rfl ?_
  refine wa_newaI dX2_init_43 Aint rfl (by omega) rfl rfl ?_
  refine wt_putR dX2_init_45 FX2_34 WX2_5 (by constructor <;> simp (disch := omega) [tmNew, vup_n, hk] <;> omega) ?_
  refine wa_return dX2_init_48 rfl ?_
  refine ⟨rfl, ?_, ?_, ?_, ?_, ?_⟩
  · intro a ha
    simp (disch := omega) [tmNew, vup_n]
  · simp [tmNew]; omega
  · simp only [LPat, tmObj, tmArr, tmNew, hp1]
    simp (disch := omega) [vup_n, vup_s, hk]
    omega
  · simp (disch := omega) [tmNew, vup_n, vup_s]
  · simp (disch := omega) [tmNew, vup_n, vup_s]
end P13
