/-! ===== 24: Arrays.fill of longs; markParts, firstsFor, secondsFor; Search's small methods ===== -/
section S24
variable {S : tmS} {I : Nat → Nat → Int} {L : Nat → Nat → Int64}
set_option maxRecDepth 20000 in
theorem fillL_loop {i nn : Nat} (ho : tmArr S i 14 nn) (x : Int64) : ∀ (k j : Nat), j + k = nn → tmW kJ7_fill_d0a16 1 0 0 6 [some (tR i), some (tL x), none, some (tI j), some (tI nn)] [] (S, I, va_up L i (tmFill (L i) j x)) (tmF none (S, I, va_up L i (tmFill (L i) nn x))) := by
  intro k
  have hb := ho.2.2.2
  induction k with
  | zero =>
    intro j hj
    obtain rfl : j = nn := by omega
    refine wa_iload_n dJ7_fill_d0a16_6 rfl ?_
    refine wa_iload dJ7_fill_d0a16_7 rfl ?_
    refine wa_icmp_ge 22 dJ7_fill_d0a16_9 (by decide) (by first | exact hI _ _ | exact ⟨by omega, by omega⟩ | assumption) (by first | exact hI _ _ | exact ⟨by omega, by omega⟩ | assumption) (fun c_9 => ?_) (fun c_9 => ?_)
    · refine wa_return dJ7_fill_d0a16_22 rfl ?_
      exact ⟨rfl, rfl⟩
    · omega
  | succ k ih =>
    intro j hj
    refine wa_iload_n dJ7_fill_d0a16_6 rfl ?_
    refine wa_iload dJ7_fill_d0a16_7 rfl ?_
    refine wa_icmp_ge 22 dJ7_fill_d0a16_9 (by decide) (by first | exact hI _ _ | exact ⟨by omega, by omega⟩ | assumption) (by first | exact hI _ _ | exact ⟨by omega, by omega⟩ | assumption) (fun c_9 => ?_) (fun c_9 => ?_)
    · omega
    · refine wa_aload_n dJ7_fill_d0a16_12 rfl ?_
      refine wa_iload_n dJ7_fill_d0a16_13 rfl ?_
      refine wa_lload_n dJ7_fill_d0a16_14 rfl ?_
      refine wt_last _ dJ7_fill_d0a16_15 (by assumption) rfl (by omega) ?_
      refine wa_iinc dJ7_fill_d0a16_16 rfl (by decide) ?_
      refine wa_goto 6 dJ7_fill_d0a16_19 (by decide) ?_
      rw [vup_vup, vup_s, tmFill_s]
      exact ih (j + 1) (by omega)
set_option maxRecDepth 20000 in
theorem c_fillL {i nn : Nat} (ho : tmArr S i 14 nn) (x : Int64) : tmC yJ7_fill_d0a16 kJ7_fill_d0a16 1 0 0 [tR i, tL x] (S, I, L) (tmF none (S, I, va_up L i (tmFill (L i) nn x))) := by
  refine tmC.mk (lv := [some (tR i), some (tL x), none, none, none]) 2 ⟨rfl, by decide +kernel, by decide⟩ rfl rfl ?_
  refine wa_iconst dJ7_fill_d0a16_0 ?_
  refine wa_istore_n dJ7_fill_d0a16_1 (by decide) ?_
  refine wa_aload_n dJ7_fill_d0a16_2 rfl ?_
  refine wt_alen dJ7_fill_d0a16_3 (by assumption) (by first | exact Or.inl rfl | exact Or.inr rfl) ?_
  refine wa_istore dJ7_fill_d0a16_4 (by decide) ?_
  have := fillL_loop (I := I) (L := L) ho x nn 0 (by omega)
  rw [tmFill_0, vup_self] at this
  exact this
set_option maxRecDepth 20000 in
set_option maxHeartbeats 1000000 in
theorem c_markParts (hL : LX S) {n : Nat} (hn : I 2 0 = (n : Int)) (hn5 : n ≤ 50) (hw : WFT n (I 3) (I 4) (I 5)) (hh : HO n (I 7)) : tmC yX5_markParts kX5_markParts 3 0 0 [tR 133, tR 2] (S, I, L) (MkPost S I L n) := by
  refine tmC.mk (lv := [some (tR 133), some (tR 2), none, none, none, none]) 4 ⟨rfl, by decide +kernel, by decide⟩ rfl rfl ?_
  have o133 := oX133 hL
  have r133_0 := rX133_0 hL
  have r133_1 := rX133_1 hL
  have r133_3 := rX133_3 hL
  have r133_5 := rX133_5 hL
  have r133_6 := rX133_6 hL
  have r133_7 := rX133_7 hL
  have o136 := oX136 hL
  have o137 := oX137 hL
  have o138 := oX138 hL
  refine wa_aload_n dX5_markParts_0 rfl ?_
  refine wt_getR dX5_markParts_1 FX5_22 (by assumption) (by assumption) ?_
  refine wa_lconst (v := 0) dX5_markParts_4 rfl ?_
  refine wa_callSf dX5_markParts_5 KJ7_fill_d0a16 LX5_85 (c_fillL o136 0) (by decide) rfl rfl (Nat.le_of_ble_eq_true rfl) rfl rfl ?_
  refine wa_aload_n dX5_markParts_8 rfl ?_
  refine wt_getR dX5_markParts_9 FX5_30 (by assumption) (by assumption) ?_
  refine wa_lconst (v := 0) dX5_markParts_12 rfl ?_
  refine wa_callSf dX5_markParts_13 KJ7_fill_d0a16 LX5_85 (c_fillL o137 0) (by decide) rfl rfl (Nat.le_of_ble_eq_true rfl) rfl rfl ?_
  refine wa_aload_n dX5_markParts_16 rfl ?_
  refine wt_getR dX5_markParts_17 FX5_33 (by assumption) (by assumption) ?_
  refine wa_lconst (v := 0) dX5_markParts_20 rfl ?_
  refine wa_callSf dX5_markParts_21 KJ7_fill_d0a16 LX5_85 (c_fillL o138 0) (by decide) rfl rfl (Nat.le_of_ble_eq_true rfl) rfl rfl ?_
  refine wa_aload_n dX5_markParts_24 rfl ?_
  refine wa_lconst (v := 0) dX5_markParts_25 rfl ?_
  refine wt_putL dX5_markParts_26 FX5_26 (WX5_4 _ _) (by assumption) ?_
  refine wa_iconst dX5_markParts_29 ?_
  refine wa_istore_n dX5_markParts_30 (by decide) ?_
  refine marks_loop hL hn hn5 hw hh n 0 _ _ _ _ (by omega) (fun a a1 a2 a3 a4 => ?_) ⟨fun s c a b => ?_, fun c b => ?_, fun q c a b => ?_, fun p c a b => ?_⟩
  · simp (disch := assumption) only [vup_n]
  · simp only [vup_if, Nat.reduceEqDiff, ↓reduceIte, tmFill, a, bit_0]
    exact ⟨fun z => (nomatch z), fun ⟨j, z, _⟩ => absurd z (Nat.not_lt_zero j)⟩
  · simp only [vup_if, Nat.reduceEqDiff, ↓reduceIte, bit_0]
    exact ⟨fun z => (nomatch z), fun ⟨j, z, _⟩ => absurd z (Nat.not_lt_zero j)⟩
  · simp only [vup_if, Nat.reduceEqDiff, ↓reduceIte, tmFill, a, bit_0]
    exact ⟨fun z => (nomatch z), fun ⟨j, z, _⟩ => absurd z (Nat.not_lt_zero j)⟩
  · simp only [vup_if, Nat.reduceEqDiff, ↓reduceIte, tmFill, a, bit_0]
    exact ⟨fun z => (nomatch z), fun ⟨j, z, _⟩ => absurd z (Nat.not_lt_zero j)⟩
set_option maxRecDepth 20000 in
theorem c_firstsFor (hL : LX S) (s x : Int) (hs : inR s) (hx : inR x) : tmC yX5_firstsFor kX5_firstsFor 1 0 0 [tR 133, tI s, tI x] (S, I, L) (tmF (some (tL (if 0 ≤ x ∧ x < 50 then L 137 x.toNat else if 0 ≤ s ∧ s < 7 then L 136 s.toNat else 0))) (S, I, L)) := by
  refine tmC.mk (lv := [some (tR 133), some (tI s), some (tI x)]) 0 ⟨rfl, by decide +kernel, by decide⟩ rfl rfl ?_
  have o133 := oX133 hL
  have r133_0 := rX133_0 hL
  have r133_1 := rX133_1 hL
  have r133_3 := rX133_3 hL
  have r133_5 := rX133_5 hL
  have r133_6 := rX133_6 hL
  have r133_7 := rX133_7 hL
  have o136 := oX136 hL
  have o137 := oX137 hL
  refine wa_iload_n dX5_firstsFor_0 rfl ?_
  refine wa_if_lt 17 dX5_firstsFor_1 (by decide) (by first | assumption | exact ⟨by omega, by omega⟩) (fun c_1 => ?_) (fun c_1 => ?_)
  · refine wa_iload_n dX5_firstsFor_17 rfl ?_
    refine wa_if_lt 36 dX5_firstsFor_18 (by decide) (by first | assumption | exact ⟨by omega, by omega⟩) (fun c_18 => ?_) (fun c_18 => ?_)
    · refine wa_lconst (v := 0) dX5_firstsFor_36 rfl ?_
      refine wa_lreturn dX5_firstsFor_37 rfl ?_
      refine ⟨?_, rfl⟩
      first | rw [if_pos (by omega)] | rw [if_neg (by omega), if_pos (by omega)] | rw [if_neg (by omega), if_neg (by omega)]
    · refine wa_iload_n dX5_firstsFor_21 rfl ?_
      refine wa_bipush dX5_firstsFor_22 rfl ?_
      refine wa_icmp_ge 36 dX5_firstsFor_24 (by decide) (by first | assumption | exact ⟨by omega, by omega⟩) (by first | assumption | exact ⟨by omega, by omega⟩) (fun c_24 => ?_) (fun c_24 => ?_)
      · refine wa_lconst (v := 0) dX5_firstsFor_36 rfl ?_
        refine wa_lreturn dX5_firstsFor_37 rfl ?_
        refine ⟨?_, rfl⟩
        first | rw [if_pos (by omega)] | rw [if_neg (by omega), if_pos (by omega)] | rw [if_neg (by omega), if_neg (by omega)]
      · refine wa_aload_n dX5_firstsFor_27 rfl ?_
        refine wt_getR dX5_firstsFor_28 FX5_22 (by assumption) (by assumption) ?_
        refine wa_iload_n dX5_firstsFor_31 rfl ?_
        refine wt_lald s.toNat dX5_firstsFor_32 (by assumption) (by omega) (by omega) ?_
        refine wa_goto 37 dX5_firstsFor_33 (by decide) ?_
        refine wa_lreturn dX5_firstsFor_37 rfl ?_
        refine ⟨?_, rfl⟩
        first | rw [if_pos (by omega)] | rw [if_neg (by omega), if_pos (by omega)] | rw [if_neg (by omega), if_neg (by omega)]
  · refine wa_iload_n dX5_firstsFor_4 rfl ?_
    refine wa_bipush dX5_firstsFor_5 rfl ?_
    refine wa_icmp_ge 17 dX5_firstsFor_7 (by decide) (by first | assumption | exact ⟨by omega, by omega⟩) (by first | assumption | exact ⟨by omega, by omega⟩) (fun c_7 => ?_) (fun c_7 => ?_)
    · refine wa_iload_n dX5_firstsFor_17 rfl ?_
      refine wa_if_lt 36 dX5_firstsFor_18 (by decide) (by first | assumption | exact ⟨by omega, by omega⟩) (fun c_18 => ?_) (fun c_18 => ?_)
      · refine wa_lconst (v := 0) dX5_firstsFor_36 rfl ?_
        refine wa_lreturn dX5_firstsFor_37 rfl ?_
        refine ⟨?_, rfl⟩
        first | rw [if_pos (by omega)] | rw [if_neg (by omega), if_pos (by omega)] | rw [if_neg (by omega), if_neg (by omega)]
      · refine wa_iload_n dX5_firstsFor_21 rfl ?_
        refine wa_bipush dX5_firstsFor_22 rfl ?_
        refine wa_icmp_ge 36 dX5_firstsFor_24 (by decide) (by first | assumption | exact ⟨by omega, by omega⟩) (by first | assumption | exact ⟨by omega, by omega⟩) (fun c_24 => ?_) (fun c_24 => ?_)
        · refine wa_lconst (v := 0) dX5_firstsFor_36 rfl ?_
          refine wa_lreturn dX5_firstsFor_37 rfl ?_
          refine ⟨?_, rfl⟩
          first | rw [if_pos (by omega)] | rw [if_neg (by omega), if_pos (by omega)] | rw [if_neg (by omega), if_neg (by omega)]
        · refine wa_aload_n dX5_firstsFor_27 rfl ?_
          refine wt_getR dX5_firstsFor_28 FX5_22 (by assumption) (by assumption) ?_
          refine wa_iload_n dX5_firstsFor_31 rfl ?_
          refine wt_lald s.toNat dX5_firstsFor_32 (by assumption) (by omega) (by omega) ?_
          refine wa_goto 37 dX5_firstsFor_33 (by decide) ?_
          refine wa_lreturn dX5_firstsFor_37 rfl ?_
          refine ⟨?_, rfl⟩
          first | rw [if_pos (by omega)] | rw [if_neg (by omega), if_pos (by omega)] | rw [if_neg (by omega), if_neg (by omega)]
    · refine wa_aload_n dX5_firstsFor_10 rfl ?_
      refine wt_getR dX5_firstsFor_11 FX5_30 (by assumption) (by assumption) ?_
      refine wa_iload_n dX5_firstsFor_14 rfl ?_
      refine wt_lald x.toNat dX5_firstsFor_15 (by assumption) (by omega) (by omega) ?_
      refine wa_lreturn dX5_firstsFor_16 rfl ?_
      refine ⟨?_, rfl⟩
      first | rw [if_pos (by omega)] | rw [if_neg (by omega), if_pos (by omega)] | rw [if_neg (by omega), if_neg (by omega)]
set_option maxRecDepth 20000 in
theorem c_secondsFor (hL : LX S) (x : Int) (hx : inR x) : tmC yX5_secondsFor kX5_secondsFor 1 0 0 [tR 133, tI x] (S, I, L) (tmF (some (tL (if 0 ≤ x ∧ x < 50 then L 138 x.toNat else L 133 4))) (S, I, L)) := by
  refine tmC.mk (lv := [some (tR 133), some (tI x)]) 0 ⟨rfl, by decide +kernel, by decide⟩ rfl rfl ?_
  have o133 := oX133 hL
  have r133_0 := rX133_0 hL
  have r133_1 := rX133_1 hL
  have r133_3 := rX133_3 hL
  have r133_5 := rX133_5 hL
  have r133_6 := rX133_6 hL
  have r133_7 := rX133_7 hL
  have o138 := oX138 hL
  refine wa_iload_n dX5_secondsFor_0 rfl ?_
  refine wa_if_lt 19 dX5_secondsFor_1 (by decide) (by first | assumption | exact ⟨by omega, by omega⟩) (fun c_1 => ?_) (fun c_1 => ?_)
  · refine wa_aload_n dX5_secondsFor_19 rfl ?_
    refine wt_getL dX5_secondsFor_20 FX5_26 (by assumption) ?_
    refine wa_lreturn dX5_secondsFor_23 rfl ?_
    exact ⟨by first | rw [if_pos (by omega)] | rw [if_neg (by omega)], rfl⟩
  · refine wa_iload_n dX5_secondsFor_4 rfl ?_
    refine wa_bipush dX5_secondsFor_5 rfl ?_
    refine wa_icmp_ge 19 dX5_secondsFor_7 (by decide) (by first | assumption | exact ⟨by omega, by omega⟩) (by first | assumption | exact ⟨by omega, by omega⟩) (fun c_7 => ?_) (fun c_7 => ?_)
    · refine wa_aload_n dX5_secondsFor_19 rfl ?_
      refine wt_getL dX5_secondsFor_20 FX5_26 (by assumption) ?_
      refine wa_lreturn dX5_secondsFor_23 rfl ?_
      exact ⟨by first | rw [if_pos (by omega)] | rw [if_neg (by omega)], rfl⟩
    · refine wa_aload_n dX5_secondsFor_10 rfl ?_
      refine wt_getR dX5_secondsFor_11 FX5_33 (by assumption) (by assumption) ?_
      refine wa_iload_n dX5_secondsFor_14 rfl ?_
      refine wt_lald x.toNat dX5_secondsFor_15 (by assumption) (by omega) (by omega) ?_
      refine wa_goto 23 dX5_secondsFor_16 (by decide) ?_
      refine wa_lreturn dX5_secondsFor_23 rfl ?_
      exact ⟨by first | rw [if_pos (by omega)] | rw [if_neg (by omega)], rfl⟩
-- Search (143)
def svOf (v : Nat → Int) (m : Nat) (d x : Int) : Int := if 0 ≤ x ∧ x < m then v x.toNat else d
set_option maxRecDepth 20000 in
theorem c_valueOf (hL : LX S) (x : Int) (hx : inR x) : tmC yX4_valueOf kX4_valueOf 1 0 0 [tR 143, tI x] (S, I, L) (tmF (some (tI (svOf (I 147) 120 (-1) x))) (S, I, L)) := by
  refine tmC.mk (lv := [some (tR 143), some (tI x)]) 0 ⟨rfl, by decide +kernel, by decide⟩ rfl rfl ?_
  refine wt_ir (fun hI => ?_)
  have o143 := oX143 hL
  have r143_0 := rX143_0 hL
  have r143_1 := rX143_1 hL
  have r143_2 := rX143_2 hL
  have r143_4 := rX143_4 hL
  have r143_5 := rX143_5 hL
  have r143_6 := rX143_6 hL
  have o147 := oX147 hL
  refine wa_iload_n dX4_valueOf_0 rfl ?_
  refine wa_if_lt 19 dX4_valueOf_1 (by decide) (by first | exact hI _ _ | exact ⟨by omega, by omega⟩ | assumption) (fun c_1 => ?_) (fun c_1 => ?_)
  · refine wa_iconst dX4_valueOf_19 ?_
    refine wa_ireturn dX4_valueOf_20 rfl ?_
    exact ⟨by first | rw [svOf, if_pos (by omega)] | rw [svOf, if_neg (by omega)], rfl⟩
  · refine wa_iload_n dX4_valueOf_4 rfl ?_
    refine wa_bipush dX4_valueOf_5 rfl ?_
    refine wa_icmp_ge 19 dX4_valueOf_7 (by decide) (by first | exact hI _ _ | exact ⟨by omega, by omega⟩ | assumption) (by first | exact hI _ _ | exact ⟨by omega, by omega⟩ | assumption) (fun c_7 => ?_) (fun c_7 => ?_)
    · refine wa_iconst dX4_valueOf_19 ?_
      refine wa_ireturn dX4_valueOf_20 rfl ?_
      exact ⟨by first | rw [svOf, if_pos (by omega)] | rw [svOf, if_neg (by omega)], rfl⟩
    · refine wa_aload_n dX4_valueOf_10 rfl ?_
      refine wt_getR dX4_valueOf_11 FX4_28 (by assumption) (by assumption) ?_
      refine wa_iload_n dX4_valueOf_14 rfl ?_
      refine wt_iald x.toNat dX4_valueOf_15 (by assumption) (by omega) (by omega) ?_
      refine wa_goto 20 dX4_valueOf_16 (by decide) ?_
      refine wa_ireturn dX4_valueOf_20 rfl ?_
      exact ⟨by first | rw [svOf, if_pos (by omega)] | rw [svOf, if_neg (by omega)], rfl⟩
set_option maxRecDepth 20000 in
theorem c_leastOf (hL : LX S) (x : Int) (hx : inR x) : tmC yX4_leastOf kX4_leastOf 1 0 0 [tR 143, tI x] (S, I, L) (tmF (some (tI (svOf (I 146) 50 0 x))) (S, I, L)) := by
  refine tmC.mk (lv := [some (tR 143), some (tI x)]) 0 ⟨rfl, by decide +kernel, by decide⟩ rfl rfl ?_
  refine wt_ir (fun hI => ?_)
  have o143 := oX143 hL
  have r143_0 := rX143_0 hL
  have r143_1 := rX143_1 hL
  have r143_2 := rX143_2 hL
  have r143_4 := rX143_4 hL
  have r143_5 := rX143_5 hL
  have r143_6 := rX143_6 hL
  have o146 := oX146 hL
  refine wa_iload_n dX4_leastOf_0 rfl ?_
  refine wa_if_lt 19 dX4_leastOf_1 (by decide) (by first | exact hI _ _ | exact ⟨by omega, by omega⟩ | assumption) (fun c_1 => ?_) (fun c_1 => ?_)
  · refine wa_iconst dX4_leastOf_19 ?_
    refine wa_ireturn dX4_leastOf_20 rfl ?_
    exact ⟨by first | rw [svOf, if_pos (by omega)] | rw [svOf, if_neg (by omega)], rfl⟩
  · refine wa_iload_n dX4_leastOf_4 rfl ?_
    refine wa_bipush dX4_leastOf_5 rfl ?_
    refine wa_icmp_ge 19 dX4_leastOf_7 (by decide) (by first | exact hI _ _ | exact ⟨by omega, by omega⟩ | assumption) (by first | exact hI _ _ | exact ⟨by omega, by omega⟩ | assumption) (fun c_7 => ?_) (fun c_7 => ?_)
    · refine wa_iconst dX4_leastOf_19 ?_
      refine wa_ireturn dX4_leastOf_20 rfl ?_
      exact ⟨by first | rw [svOf, if_pos (by omega)] | rw [svOf, if_neg (by omega)], rfl⟩
    · refine wa_aload_n dX4_leastOf_10 rfl ?_
      refine wt_getR dX4_leastOf_11 FX4_24 (by assumption) (by assumption) ?_
      refine wa_iload_n dX4_leastOf_14 rfl ?_
      refine wt_iald x.toNat dX4_leastOf_15 (by assumption) (by omega) (by omega) ?_
      refine wa_goto 20 dX4_leastOf_16 (by decide) ?_
      refine wa_ireturn dX4_leastOf_20 rfl ?_
      exact ⟨by first | rw [svOf, if_pos (by omega)] | rw [svOf, if_neg (by omega)], rfl⟩
set_option maxRecDepth 20000 in
theorem c_chosenFor (hL : LX S) (x : Int) (hx : inR x) : tmC yX4_chosenFor kX4_chosenFor 1 0 0 [tR 143, tI x] (S, I, L) (tmF (some (tI (svOf (I 148) 3 (-1) x))) (S, I, L)) := by
  refine tmC.mk (lv := [some (tR 143), some (tI x)]) 0 ⟨rfl, by decide +kernel, by decide⟩ rfl rfl ?_
  refine wt_ir (fun hI => ?_)
  have o143 := oX143 hL
  have r143_0 := rX143_0 hL
  have r143_1 := rX143_1 hL
  have r143_2 := rX143_2 hL
  have r143_4 := rX143_4 hL
  have r143_5 := rX143_5 hL
  have r143_6 := rX143_6 hL
  have o148 := oX148 hL
  refine wa_iload_n dX4_chosenFor_0 rfl ?_
  refine wa_if_lt 18 dX4_chosenFor_1 (by decide) (by first | exact hI _ _ | exact ⟨by omega, by omega⟩ | assumption) (fun c_1 => ?_) (fun c_1 => ?_)
  · refine wa_iconst dX4_chosenFor_18 ?_
    refine wa_ireturn dX4_chosenFor_19 rfl ?_
    exact ⟨by first | rw [svOf, if_pos (by omega)] | rw [svOf, if_neg (by omega)], rfl⟩
  · refine wa_iload_n dX4_chosenFor_4 rfl ?_
    refine wa_iconst dX4_chosenFor_5 ?_
    refine wa_icmp_ge 18 dX4_chosenFor_6 (by decide) (by first | exact hI _ _ | exact ⟨by omega, by omega⟩ | assumption) (by first | exact hI _ _ | exact ⟨by omega, by omega⟩ | assumption) (fun c_6 => ?_) (fun c_6 => ?_)
    · refine wa_iconst dX4_chosenFor_18 ?_
      refine wa_ireturn dX4_chosenFor_19 rfl ?_
      exact ⟨by first | rw [svOf, if_pos (by omega)] | rw [svOf, if_neg (by omega)], rfl⟩
    · refine wa_aload_n dX4_chosenFor_9 rfl ?_
      refine wt_getR dX4_chosenFor_10 FX4_31 (by assumption) (by assumption) ?_
      refine wa_iload_n dX4_chosenFor_13 rfl ?_
      refine wt_iald x.toNat dX4_chosenFor_14 (by assumption) (by omega) (by omega) ?_
      refine wa_goto 19 dX4_chosenFor_15 (by decide) ?_
      refine wa_ireturn dX4_chosenFor_19 rfl ?_
      exact ⟨by first | rw [svOf, if_pos (by omega)] | rw [svOf, if_neg (by omega)], rfl⟩
set_option maxRecDepth 20000 in
theorem c_knownValue (hL : LX S) {p m sz : Nat} (hp : LPat S p m) (hs : I p 0 = (sz : Int)) (hsm : sz ≤ m) (x l : Int) (hx : inR x) (hl : inR l) : tmC yX4_knownValue kX4_knownValue 2 0 0 [tR 143, tR p, tI x, tI l] (S, I, L) (tmF (some (tI (if tmStageOf sz (I (p + 4)) x ≤ l then svOf (I 147) 120 (-1) x else -1))) (S, I, L)) := by
  refine tmC.mk (lv := [some (tR 143), some (tR p), some (tI x), some (tI l)]) 0 ⟨rfl, by decide +kernel, by decide⟩ rfl rfl ?_
  refine wt_ir (fun hI => ?_)
  have o143 := oX143 hL
  have r143_0 := rX143_0 hL
  have r143_1 := rX143_1 hL
  have r143_2 := rX143_2 hL
  have r143_4 := rX143_4 hL
  have r143_5 := rX143_5 hL
  have r143_6 := rX143_6 hL
  have hp0 := hp.1
  have hst : inR (tmStageOf sz (I (p + 4)) x) := by unfold tmStageOf; split; exact hI _ _; exact ⟨by omega, by omega⟩
  refine wa_aload_n dX4_knownValue_0 rfl ?_
  refine wa_iload_n dX4_knownValue_1 rfl ?_
  refine wa_callVf (ci := 2) dX4_knownValue_2 KX2_stageOf LX4_140 ⟨_, _, rfl, by decide⟩ hp0 (c_stageOf hp hs hsm x hx) (by decide) rfl rfl (Nat.le_of_ble_eq_true rfl) rfl rfl ?_
  refine wa_iload_n dX4_knownValue_5 rfl ?_
  refine wa_icmp_gt 17 dX4_knownValue_6 (by decide) (by first | assumption) (by first | assumption) (fun c_6 => ?_) (fun c_6 => ?_)
  · refine wa_iconst dX4_knownValue_17 ?_
    refine wa_ireturn dX4_knownValue_18 rfl ?_
    exact ⟨by first | rw [if_pos (by omega)] | rw [if_neg (by omega)], rfl⟩
  · refine wa_aload_n dX4_knownValue_9 rfl ?_
    refine wa_iload_n dX4_knownValue_10 rfl ?_
    refine wa_callVf (ci := 4) dX4_knownValue_11 KX4_valueOf LX4_144 ⟨_, _, rfl, by decide⟩ o143 (c_valueOf hL x hx) (by decide) rfl rfl (Nat.le_of_ble_eq_true rfl) rfl rfl ?_
    refine wa_goto 18 dX4_knownValue_14 (by decide) ?_
    refine wa_ireturn dX4_knownValue_18 rfl ?_
    exact ⟨by first | rw [if_pos (by omega)] | rw [if_neg (by omega)], rfl⟩
set_option maxRecDepth 20000 in
theorem c_forget (hL : LX S) : tmC yX4_forget kX4_forget 1 0 0 [tR 143] (S, I, L) (tmF none (S, va_up I 143 (va_up (I 143) 3 (-1)), L)) := by
  refine tmC.mk (lv := [some (tR 143)]) 0 ⟨rfl, by decide +kernel, by decide⟩ rfl rfl ?_
  have o143 := oX143 hL
  have r143_0 := rX143_0 hL
  have r143_1 := rX143_1 hL
  have r143_2 := rX143_2 hL
  have r143_4 := rX143_4 hL
  have r143_5 := rX143_5 hL
  have r143_6 := rX143_6 hL
  refine wa_aload_n dX4_forget_0 rfl ?_
  refine wa_iconst dX4_forget_1 ?_
  refine wt_putI dX4_forget_2 FX4_20 (WX4_3 _ _) (by assumption) (by exact ⟨by omega, by omega⟩) ?_
  refine wa_return dX4_forget_5 rfl ?_
  exact ⟨rfl, rfl⟩
/-- the least generations of CLASSES, from t on -/
def gnRun (ho ge : Nat → Int) : Nat → Nat → (Nat → Int) → Nat → Int
  | 0, _, c => c
  | k + 1, t, c => gnRun ho ge k (t + 1) (va_up c (ho t).toNat (if ge t < c (ho t).toNat then ge t else c (ho t).toNat))
set_option maxRecDepth 20000 in
theorem markGen_loop (hL : LX S) {n : Nat} (hn : I 2 0 = (n : Int)) (hn5 : n ≤ 50) (hh : HO n (I 7)) : ∀ (k t : Nat) (c : Nat → Int) (x : Option tmV), t + k = n →
    tmW kX4_markGenerations 2 0 0 19 [some (tR 143), some (tR 2), some (tI t), x] [] (S, va_up I 146 c, L) (tmF none (S, va_up I 146 (gnRun (I 7) (I 6) k t c), L)) := by
  intro k
  have o2 := oX2 hL
  have r2_1 := rX2_1 hL
  have r2_2 := rX2_2 hL
  have r2_3 := rX2_3 hL
  have r2_4 := rX2_4 hL
  have r2_5 := rX2_5 hL
  have o6 := oX6 hL
  have o7 := oX7 hL
  have o143 := oX143 hL
  have r143_0 := rX143_0 hL
  have r143_1 := rX143_1 hL
  have r143_2 := rX143_2 hL
  have r143_4 := rX143_4 hL
  have r143_5 := rX143_5 hL
  have r143_6 := rX143_6 hL
  have o146 := oX146 hL
  induction k with
  | zero =>
    intro t c x ht
    refine wt_ir (fun hI => ?_)
    refine wa_iload_n dX4_markGenerations_19 rfl ?_
    refine wa_aload_n dX4_markGenerations_20 rfl ?_
    refine wt_getI dX4_markGenerations_21 FX4_87 (by assumption) ?_
    try simp only [vup_if, Nat.reduceEqDiff, ↓reduceIte, hn]
    refine wa_icmp_ge 71 dX4_markGenerations_24 (by decide) (by exact ⟨by omega, by omega⟩) (by exact ⟨by omega, by omega⟩) (fun c_24 => ?_) (fun c_24 => ?_)
    · refine wa_return dX4_markGenerations_71 rfl ?_
      exact ⟨rfl, rfl⟩
    · omega
  | succ k ih =>
    intro t c x ht
    have at_ := hh t (by omega)
    refine wt_ir (fun hI => ?_)
    have h1 : inR (c (I 7 t).toNat) := by have := hI 146 (I 7 t).toNat; simpa [vup_if] using this
    have h2 : inR (I 6 t) := by have := hI 6 t; simpa [vup_if] using this
    refine wa_iload_n dX4_markGenerations_19 rfl ?_
    refine wa_aload_n dX4_markGenerations_20 rfl ?_
    refine wt_getI dX4_markGenerations_21 FX4_87 (by assumption) ?_
    try simp only [vup_if, Nat.reduceEqDiff, ↓reduceIte, hn]
    refine wa_icmp_ge 71 dX4_markGenerations_24 (by decide) (by exact ⟨by omega, by omega⟩) (by exact ⟨by omega, by omega⟩) (fun c_24 => ?_) (fun c_24 => ?_)
    · omega
    · refine wa_aload_n dX4_markGenerations_27 rfl ?_
      refine wt_getR dX4_markGenerations_28 FX4_90 (by assumption) (by assumption) ?_
      refine wa_iload_n dX4_markGenerations_31 rfl ?_
      refine wt_iald _ dX4_markGenerations_32 (by assumption) rfl (by omega) ?_
      try simp only [vup_if, Nat.reduceEqDiff, ↓reduceIte, hn]
      refine wa_istore_n dX4_markGenerations_33 (by decide) ?_
      refine wa_iload_n dX4_markGenerations_34 rfl ?_
      refine wa_if_lt 65 dX4_markGenerations_35 (by decide) (by exact ⟨by omega, by omega⟩) (fun c_35 => ?_) (fun c_35 => ?_)
      · omega
      · refine wa_iload_n dX4_markGenerations_38 rfl ?_
        refine wa_bipush dX4_markGenerations_39 rfl ?_
        refine wa_icmp_ge 65 dX4_markGenerations_41 (by decide) (by exact ⟨by omega, by omega⟩) (by exact ⟨by omega, by omega⟩) (fun c_41 => ?_) (fun c_41 => ?_)
        · omega
        · refine wa_aload_n dX4_markGenerations_44 rfl ?_
          refine wt_getR dX4_markGenerations_45 FX4_24 (by assumption) (by assumption) ?_
          refine wa_iload_n dX4_markGenerations_48 rfl ?_
          refine wa_aload_n dX4_markGenerations_49 rfl ?_
          refine wt_getR dX4_markGenerations_50 FX4_24 (by assumption) (by assumption) ?_
          refine wa_iload_n dX4_markGenerations_53 rfl ?_
          refine wt_iald (I 7 t).toNat dX4_markGenerations_54 (by assumption) (by omega) (by omega) ?_
          try simp only [vup_if, Nat.reduceEqDiff, ↓reduceIte, hn]
          refine wa_aload_n dX4_markGenerations_55 rfl ?_
          refine wt_getR dX4_markGenerations_56 FX4_93 (by assumption) (by assumption) ?_
          refine wa_iload_n dX4_markGenerations_59 rfl ?_
          refine wt_iald _ dX4_markGenerations_60 (by assumption) rfl (by omega) ?_
          try simp only [vup_if, Nat.reduceEqDiff, ↓reduceIte, hn]
          refine wa_min dX4_markGenerations_61 LX4_96 (by decide) (Nat.le_of_ble_eq_true rfl) (by assumption) (by assumption) ?_
          refine wt_iast (I 7 t).toNat dX4_markGenerations_64 (by assumption) (by omega) (by omega) (by split <;> assumption) ?_
          refine wa_iinc dX4_markGenerations_65 rfl (by decide) ?_
          refine wa_goto 19 dX4_markGenerations_68 (by decide) ?_
          rw [vup_vup, vup_s]
          exact ih (t + 1) _ _ (by omega)
set_option maxRecDepth 20000 in
theorem c_markGenerations (hL : LX S) {n : Nat} (hn : I 2 0 = (n : Int)) (hn5 : n ≤ 50) (hh : HO n (I 7)) : tmC yX4_markGenerations kX4_markGenerations 2 0 0 [tR 143] (S, I, L) (tmF none (S, va_up I 146 (gnRun (I 7) (I 6) n 0 (tmFill (I 146) 50 9)), L)) := by
  refine tmC.mk (lv := [some (tR 143), none, none, none]) 3 ⟨rfl, by decide +kernel, by decide⟩ rfl rfl ?_
  have o143 := oX143 hL
  have r143_0 := rX143_0 hL
  have r143_1 := rX143_1 hL
  have r143_2 := rX143_2 hL
  have r143_4 := rX143_4 hL
  have r143_5 := rX143_5 hL
  have r143_6 := rX143_6 hL
  have o146 := oX146 hL
  have o1 := oX1 hL
  have r1_0 := rX1_0 hL
  have r1_1 := rX1_1 hL
  have r1_3 := rX1_3 hL
  refine wa_aload_n dX4_markGenerations_0 rfl ?_
  refine wt_getR dX4_markGenerations_1 FX4_24 (by assumption) (by assumption) ?_
  refine wa_bipush dX4_markGenerations_4 rfl ?_
  refine wa_callSf dX4_markGenerations_6 KJ7_fill_53178 LX4_81 (c_fillI o146 9 ⟨by omega, by omega⟩) (by decide) rfl rfl (Nat.le_of_ble_eq_true rfl) rfl rfl ?_
  refine wa_aload_n dX4_markGenerations_9 rfl ?_
  refine wt_getR dX4_markGenerations_10 FX4_34 (by assumption) (by assumption) ?_
  refine wt_getR dX4_markGenerations_13 FX4_48 (by assumption) (by assumption) ?_
  refine wa_astore_n dX4_markGenerations_16 (by decide) ?_
  refine wa_iconst dX4_markGenerations_17 ?_
  refine wa_istore_n dX4_markGenerations_18 (by decide) ?_
  exact markGen_loop hL hn hn5 hh n 0 _ _ (by omega)
end S24
