/-! ===== 23: Standing.markParts, firstsFor, secondsFor ===== -/
def bit (x : Int64) (c : Nat) : Bool := x.toBitVec.getLsbD c
theorem bit_or (x y : Int64) (c : Nat) : bit (x ||| y) c = (bit x c || bit y c) := by simp [bit, Int64.toBitVec_or, BitVec.getLsbD_or]
theorem bit_and (x y : Int64) (c : Nat) : bit (x &&& y) c = (bit x c && bit y c) := by simp [bit, Int64.toBitVec_and, BitVec.getLsbD_and]
theorem bit_0 (c : Nat) : bit 0 c = false := by simp [bit]
theorem bit_m1 : ∀ c, c < 64 → bit (-1) c = true := by decide +kernel
theorem bit_1 {p : Nat} (hp : p < 64) (c : Nat) (hc : c < 64) : bit ((1 : Int64) <<< ((Int32.ofInt (p : Int)).toInt64 &&& 63)) c = decide (c = p) := by
  have e : (1 : Int64) <<< ((Int32.ofInt (p : Int)).toInt64 &&& 63) = lN (1 * 2 ^ p) := wb_shl 1 hp
  rw [e, Nat.one_mul]
  unfold bit
  rw [wb_tb]
  have e2 : BitVec.ofNat 64 (2 ^ p) = BitVec.twoPow 64 p := by
    apply BitVec.eq_of_toNat_eq
    rw [BitVec.toNat_ofNat, BitVec.toNat_twoPow]
  rw [e2, BitVec.getLsbD_twoPow]
  by_cases h : c = p
  · subst h; simp [hc]
  · have h2 : ¬ p = c := fun z => h z.symm
    simp [h, h2, hp]
def MkT (n : Nat) (sg on ot ho : Nat → Int) (L : Nat → Nat → Int64) (t : Nat) : Prop :=
  (∀ s c, s < 7 → c < 64 → (bit (L 136 s) c = true ↔ ∃ j, j < t ∧ sg j = (s : Int) ∧ tmHome n ho (on j) = (c : Int))) ∧
  (∀ c, c < 64 → (bit (L 133 4) c = true ↔ ∃ j, j < t ∧ 0 ≤ tmHome n ho (on j) ∧ tmHome n ho (ot j) = (c : Int))) ∧
  (∀ q c, q < 50 → c < 64 → (bit (L 137 q) c = true ↔ ∃ j, j < t ∧ tmHome n ho (ot j) = (q : Int) ∧ tmHome n ho (on j) = (c : Int))) ∧
  (∀ p c, p < 50 → c < 64 → (bit (L 138 p) c = true ↔ ∃ j, j < t ∧ tmHome n ho (on j) = (p : Int) ∧ tmHome n ho (ot j) = (c : Int)))
theorem ex_lt_s {t : Nat} {P : Nat → Prop} : (∃ j, j < t + 1 ∧ P j) ↔ (∃ j, j < t ∧ P j) ∨ P t := by
  constructor
  · rintro ⟨j, h1, h2⟩
    by_cases e : j = t
    · subst e; exact Or.inr h2
    · exact Or.inl ⟨j, by omega, h2⟩
  · rintro (⟨j, h1, h2⟩ | h)
    · exact ⟨j, by omega, h2⟩
    · exact ⟨t, by omega, h⟩
theorem MkT.s0 {n : Nat} {sg on ot ho : Nat → Int} {L : Nat → Nat → Int64} {t : Nat} (h : MkT n sg on ot ho L t) (hp : tmHome n ho (on t) = -1) : MkT n sg on ot ho L (t + 1) := by
  obtain ⟨h1, h2, h3, h4⟩ := h
  refine ⟨fun s c a b => ?_, fun c b => ?_, fun q c a b => ?_, fun p c a b => ?_⟩
  · rw [h1 s c a b, ex_lt_s]; exact ⟨Or.inl, fun z => z.resolve_right (by rw [hp]; omega)⟩
  · rw [h2 c b, ex_lt_s]; exact ⟨Or.inl, fun z => z.resolve_right (by rw [hp]; omega)⟩
  · rw [h3 q c a b, ex_lt_s]; exact ⟨Or.inl, fun z => z.resolve_right (by rw [hp]; omega)⟩
  · rw [h4 p c a b, ex_lt_s]; exact ⟨Or.inl, fun z => z.resolve_right (by rw [hp]; omega)⟩
theorem bit_set {x : Int64} {p c : Nat} {A : Prop} (hp : p < 64) (hc : c < 64) (h : bit x c = true ↔ A) : bit (x ||| (1 : Int64) <<< ((Int32.ofInt (p : Int)).toInt64 &&& 63)) c = true ↔ A ∨ c = p := by
  rw [bit_or, bit_1 hp c hc, Bool.or_eq_true, h, decide_eq_true_eq]
theorem MkT.s1 {n : Nat} {sg on ot ho : Nat → Int} {L : Nat → Nat → Int64} {t s p : Nat} (h : MkT n sg on ot ho L t) (hs : sg t = (s : Int)) (hp : tmHome n ho (on t) = (p : Int)) (hp5 : p < 50) (hq : tmHome n ho (ot t) = -1) : MkT n sg on ot ho (va_up L 136 (va_up (L 136) s (L 136 s ||| (1 : Int64) <<< ((Int32.ofInt (p : Int)).toInt64 &&& 63)))) (t + 1) := by
  obtain ⟨h1, h2, h3, h4⟩ := h
  refine ⟨fun s' c a b => ?_, fun c b => ?_, fun q c a b => ?_, fun p' c a b => ?_⟩
  · rw [ex_lt_s, vup_s, vup_if]
    split
    · next e =>
      subst e
      rw [bit_set (by omega) b (h1 s' c a b), hs, hp]
      constructor
      · rintro (z | z); exact Or.inl z; exact Or.inr ⟨rfl, by omega⟩
      · rintro (z | ⟨-, z⟩); exact Or.inl z; exact Or.inr (by omega)
    · next e =>
      rw [h1 s' c a b, hs]
      exact ⟨Or.inl, fun z => z.resolve_right (by omega)⟩
  · rw [vup_n (by decide), h2 c b, ex_lt_s]; exact ⟨Or.inl, fun z => z.resolve_right (by rw [hq]; omega)⟩
  · rw [vup_n (by decide), h3 q c a b, ex_lt_s]; exact ⟨Or.inl, fun z => z.resolve_right (by rw [hq]; omega)⟩
  · rw [vup_n (by decide), h4 p' c a b, ex_lt_s]; exact ⟨Or.inl, fun z => z.resolve_right (by rw [hq]; omega)⟩
abbrev b1 (p : Nat) : Int64 := (1 : Int64) <<< ((Int32.ofInt (p : Int)).toInt64 &&& 63)
theorem MkT.s2 {n : Nat} {sg on ot ho : Nat → Int} {L : Nat → Nat → Int64} {t s p q : Nat} (h : MkT n sg on ot ho L t) (hs : sg t = (s : Int)) (hp : tmHome n ho (on t) = (p : Int)) (hp5 : p < 50) (hq : tmHome n ho (ot t) = (q : Int)) (hq5 : q < 50) : MkT n sg on ot ho (va_up (va_up (va_up (va_up L 136 (va_up (L 136) s (L 136 s ||| b1 p))) 133 (va_up (L 133) 4 (L 133 4 ||| b1 q))) 137 (va_up (L 137) q (L 137 q ||| b1 p))) 138 (va_up (L 138) p (L 138 p ||| b1 q))) (t + 1) := by
  obtain ⟨h1, h2, h3, h4⟩ := h
  refine ⟨fun s' c a b => ?_, fun c b => ?_, fun q' c a b => ?_, fun p' c a b => ?_⟩
  · rw [ex_lt_s]
    simp only [vup_if, Nat.reduceEqDiff, ↓reduceIte]
    split
    · next e =>
      subst e
      rw [bit_set (by omega) b (h1 s' c a b), hs, hp]
      constructor
      · rintro (z | z); exact Or.inl z; exact Or.inr ⟨rfl, by omega⟩
      · rintro (z | ⟨-, z⟩); exact Or.inl z; exact Or.inr (by omega)
    · next e =>
      rw [h1 s' c a b, hs]
      exact ⟨Or.inl, fun z => z.resolve_right (by omega)⟩
  · rw [ex_lt_s]
    simp only [vup_if, Nat.reduceEqDiff, ↓reduceIte]
    rw [bit_set (by omega) b (h2 c b), hp, hq]
    constructor
    · rintro (z | z); exact Or.inl z; exact Or.inr ⟨by omega, by omega⟩
    · rintro (z | ⟨-, z⟩); exact Or.inl z; exact Or.inr (by omega)
  · rw [ex_lt_s]
    simp only [vup_if, Nat.reduceEqDiff, ↓reduceIte]
    split
    · next e =>
      subst e
      rw [bit_set (by omega) b (h3 q' c a b), hp, hq]
      constructor
      · rintro (z | z); exact Or.inl z; exact Or.inr ⟨rfl, by omega⟩
      · rintro (z | ⟨-, z⟩); exact Or.inl z; exact Or.inr (by omega)
    · next e =>
      rw [h3 q' c a b, hq]
      exact ⟨Or.inl, fun z => z.resolve_right (by omega)⟩
  · rw [ex_lt_s]
    simp only [vup_if, Nat.reduceEqDiff, ↓reduceIte]
    split
    · next e =>
      subst e
      rw [bit_set (by omega) b (h4 p' c a b), hp, hq]
      constructor
      · rintro (z | z); exact Or.inl z; exact Or.inr ⟨rfl, by omega⟩
      · rintro (z | ⟨-, z⟩); exact Or.inl z; exact Or.inr (by omega)
    · next e =>
      rw [h4 p' c a b, hp]
      exact ⟨Or.inl, fun z => z.resolve_right (by omega)⟩
section S23
variable {S : tmS} {I : Nat → Nat → Int} {L : Nat → Nat → Int64}
/-- marking changes these longs alone -/
def MkFr (L L' : Nat → Nat → Int64) : Prop := ∀ a, a ≠ 133 → a ≠ 136 → a ≠ 137 → a ≠ 138 → L' a = L a
abbrev MkPost (S : tmS) (I : Nat → Nat → Int) (L : Nat → Nat → Int64) (n : Nat) : Option tmV → tmH → Prop := fun r h' => r = none ∧ ∃ L', h' = (S, I, L') ∧ MkFr L L' ∧ MkT n (I 3) (I 4) (I 5) (I 7) L' n
set_option maxRecDepth 20000 in
set_option maxHeartbeats 2000000 in
theorem marks_loop (hL : LX S) {n : Nat} (hn : I 2 0 = (n : Int)) (hn5 : n ≤ 50) (hw : WFT n (I 3) (I 4) (I 5)) (hh : HO n (I 7)) : ∀ (k t : Nat) (x y z : Option tmV) (L' : Nat → Nat → Int64), t + k = n → MkFr L L' → MkT n (I 3) (I 4) (I 5) (I 7) L' t →
    tmW kX5_markParts 3 0 0 31 [some (tR 133), some (tR 2), some (tI t), x, y, z] [] (S, I, L') (MkPost S I L n) := by
  intro k
  have o2 := oX2 hL
  have r2_1 := rX2_1 hL
  have r2_2 := rX2_2 hL
  have r2_3 := rX2_3 hL
  have r2_4 := rX2_4 hL
  have r2_5 := rX2_5 hL
  have o3 := oX3 hL
  have o4 := oX4 hL
  have o5 := oX5 hL
  have o133 := oX133 hL
  have r133_0 := rX133_0 hL
  have r133_1 := rX133_1 hL
  have r133_3 := rX133_3 hL
  have r133_5 := rX133_5 hL
  have r133_6 := rX133_6 hL
  have r133_7 := rX133_7 hL
  have o136 := oX136 hL
  have o137 := oX137 hL
  have o138 := oX138 hL
  induction k with
  | zero =>
    intro t x y z L' ht hf hm
    obtain rfl : t = n := by omega
    refine wt_ir (fun hI => ?_)
    refine wa_iload_n dX5_markParts_31 rfl ?_
    refine wa_aload_n dX5_markParts_32 rfl ?_
    refine wt_getI dX5_markParts_33 FX5_52 (by assumption) ?_
    refine wa_icmp_ge 153 dX5_markParts_36 (by decide) (by first | exact hI _ _ | exact ⟨by omega, by omega⟩ | assumption) (by first | exact hI _ _ | exact ⟨by omega, by omega⟩ | assumption) (fun c_36 => ?_) (fun c_36 => ?_)
    · refine wa_return dX5_markParts_153 rfl ?_
      exact ⟨rfl, L', rfl, hf, hm⟩
    · omega
  | succ k ih =>
    intro t x y z L' ht hf hm
    refine wt_ir (fun hI => ?_)
    obtain ⟨e1, e2, e3, e4, e5, e6⟩ := part_ok hw hh hn5 (t := t) (by omega)
    have hr : ∀ w, inR (tmHome n (I 7) w) := by intro w; unfold tmHome; split; exact hI _ _; exact ⟨by omega, by omega⟩
    have r1 := hr (I 4 t)
    have r2 := hr (I 5 t)
    obtain ⟨s, hs⟩ : ∃ s : Nat, I 3 t = (s : Int) := ⟨(I 3 t).toNat, by omega⟩
    have ihs := fun x y z L'' a b => ih (t + 1) x y z L'' (by omega) a b
    by_cases h4 : I 3 t < 4
    · have hp := e4 h4
      have nx := hm.s0 hp
      refine wa_iload_n dX5_markParts_31 rfl ?_
      refine wa_aload_n dX5_markParts_32 rfl ?_
      refine wt_getI dX5_markParts_33 FX5_52 (by assumption) ?_
      refine wa_icmp_ge 153 dX5_markParts_36 (by decide) (by first | exact hI _ _ | assumption | exact ⟨by omega, by omega⟩) (by first | exact hI _ _ | assumption | exact ⟨by omega, by omega⟩) (fun c_36 => ?_) (fun c_36 => ?_)
      · omega
      · refine wa_aload_n dX5_markParts_39 rfl ?_
        refine wa_aload_n dX5_markParts_40 rfl ?_
        refine wt_getR dX5_markParts_41 FX5_60 (by assumption) (by assumption) ?_
        refine wa_iload_n dX5_markParts_44 rfl ?_
        refine wt_iald _ dX5_markParts_45 (by assumption) rfl (by omega) ?_
        refine wa_callVf (ci := 8) dX5_markParts_46 KX8_homeOf LX5_63 ⟨_, _, rfl, by decide⟩ o2 (c_homeOf hL hn hn5 (I 4 t) (hI _ _)) (by decide) rfl rfl (Nat.le_of_ble_eq_true rfl) rfl rfl ?_
        refine wa_istore_n dX5_markParts_49 (by decide) ?_
        refine wa_aload_n dX5_markParts_50 rfl ?_
        refine wa_aload_n dX5_markParts_51 rfl ?_
        refine wt_getR dX5_markParts_52 FX5_67 (by assumption) (by assumption) ?_
        refine wa_iload_n dX5_markParts_55 rfl ?_
        refine wt_iald _ dX5_markParts_56 (by assumption) rfl (by omega) ?_
        refine wa_callVf (ci := 8) dX5_markParts_57 KX8_homeOf LX5_63 ⟨_, _, rfl, by decide⟩ o2 (c_homeOf hL hn hn5 (I 5 t) (hI _ _)) (by decide) rfl rfl (Nat.le_of_ble_eq_true rfl) rfl rfl ?_
        refine wa_istore dX5_markParts_60 (by decide) ?_
        refine wa_aload_n dX5_markParts_62 rfl ?_
        refine wt_getR dX5_markParts_63 FX5_57 (by assumption) (by assumption) ?_
        refine wa_iload_n dX5_markParts_66 rfl ?_
        refine wt_iald _ dX5_markParts_67 (by assumption) rfl (by omega) ?_
        refine wa_istore dX5_markParts_68 (by decide) ?_
        refine wa_iload_n dX5_markParts_70 rfl ?_
        refine wa_if_lt 99 dX5_markParts_71 (by decide) (by first | exact hI _ _ | assumption | exact ⟨by omega, by omega⟩) (fun c_71 => ?_) (fun c_71 => ?_)
        · refine wa_iload_n dX5_markParts_99 rfl ?_
          refine wa_if_lt 147 dX5_markParts_100 (by decide) (by first | exact hI _ _ | assumption | exact ⟨by omega, by omega⟩) (fun c_100 => ?_) (fun c_100 => ?_)
          · refine wa_iinc dX5_markParts_147 rfl (by decide) ?_
            refine wa_goto 31 dX5_markParts_150 (by decide) ?_
            exact ihs _ _ _ _ hf nx
          · omega
        · omega
    · obtain ⟨p, hp⟩ : ∃ p : Nat, tmHome n (I 7) (I 4 t) = (p : Int) := ⟨(tmHome n (I 7) (I 4 t)).toNat, by have := e2 (by omega); omega⟩
      have hp5 : p < 50 := by have := e2 (by omega); omega
      by_cases h6 : I 3 t < 6
      · have hq := e5 h6
        have nx := hm.s1 hs hp hp5 hq
        refine wa_iload_n dX5_markParts_31 rfl ?_
        refine wa_aload_n dX5_markParts_32 rfl ?_
        refine wt_getI dX5_markParts_33 FX5_52 (by assumption) ?_
        refine wa_icmp_ge 153 dX5_markParts_36 (by decide) (by first | exact hI _ _ | assumption | exact ⟨by omega, by omega⟩) (by first | exact hI _ _ | assumption | exact ⟨by omega, by omega⟩) (fun c_36 => ?_) (fun c_36 => ?_)
        · omega
        · refine wa_aload_n dX5_markParts_39 rfl ?_
          refine wa_aload_n dX5_markParts_40 rfl ?_
          refine wt_getR dX5_markParts_41 FX5_60 (by assumption) (by assumption) ?_
          refine wa_iload_n dX5_markParts_44 rfl ?_
          refine wt_iald _ dX5_markParts_45 (by assumption) rfl (by omega) ?_
          refine wa_callVf (ci := 8) dX5_markParts_46 KX8_homeOf LX5_63 ⟨_, _, rfl, by decide⟩ o2 (by have := c_homeOf (L := L') hL hn hn5 (I 4 t) (hI _ _); rw [hp] at this; exact this) (by decide) rfl rfl (Nat.le_of_ble_eq_true rfl) rfl rfl ?_
          refine wa_istore_n dX5_markParts_49 (by decide) ?_
          refine wa_aload_n dX5_markParts_50 rfl ?_
          refine wa_aload_n dX5_markParts_51 rfl ?_
          refine wt_getR dX5_markParts_52 FX5_67 (by assumption) (by assumption) ?_
          refine wa_iload_n dX5_markParts_55 rfl ?_
          refine wt_iald _ dX5_markParts_56 (by assumption) rfl (by omega) ?_
          refine wa_callVf (ci := 8) dX5_markParts_57 KX8_homeOf LX5_63 ⟨_, _, rfl, by decide⟩ o2 (by have := c_homeOf (L := L') hL hn hn5 (I 5 t) (hI _ _); rw [hq] at this; exact this) (by decide) rfl rfl (Nat.le_of_ble_eq_true rfl) rfl rfl ?_
          refine wa_istore dX5_markParts_60 (by decide) ?_
          refine wa_aload_n dX5_markParts_62 rfl ?_
          refine wt_getR dX5_markParts_63 FX5_57 (by assumption) (by assumption) ?_
          refine wa_iload_n dX5_markParts_66 rfl ?_
          refine wt_iald _ dX5_markParts_67 (by assumption) rfl (by omega) ?_
          refine wa_istore dX5_markParts_68 (by decide) ?_
          refine wa_iload_n dX5_markParts_70 rfl ?_
          refine wa_if_lt 99 dX5_markParts_71 (by decide) (by first | exact hI _ _ | assumption | exact ⟨by omega, by omega⟩) (fun c_71 => ?_) (fun c_71 => ?_)
          · omega
          · refine wa_iload dX5_markParts_74 rfl ?_
            refine wa_if_lt 99 dX5_markParts_76 (by decide) (by first | exact hI _ _ | assumption | exact ⟨by omega, by omega⟩) (fun c_76 => ?_) (fun c_76 => ?_)
            · omega
            · refine wa_iload dX5_markParts_79 rfl ?_
              refine wa_bipush dX5_markParts_81 rfl ?_
              refine wa_icmp_ge 99 dX5_markParts_83 (by decide) (by first | exact hI _ _ | assumption | exact ⟨by omega, by omega⟩) (by first | exact hI _ _ | assumption | exact ⟨by omega, by omega⟩) (fun c_83 => ?_) (fun c_83 => ?_)
              · omega
              · refine wa_aload_n dX5_markParts_86 rfl ?_
                refine wt_getR dX5_markParts_87 FX5_22 (by assumption) (by assumption) ?_
                refine wa_iload dX5_markParts_90 rfl ?_
                refine wa_dup2 dX5_markParts_92 rfl rfl ?_
                refine wt_lald s dX5_markParts_93 (by assumption) hs (by omega) ?_
                refine wa_lconst (v := 1) dX5_markParts_94 rfl ?_
                refine wa_iload_n dX5_markParts_95 rfl ?_
                refine wa_lshl dX5_markParts_96 rfl ?_
                refine wa_lor dX5_markParts_97 ?_
                refine wt_last s dX5_markParts_98 (by assumption) hs (by omega) ?_
                refine wa_iload_n dX5_markParts_99 rfl ?_
                refine wa_if_lt 147 dX5_markParts_100 (by decide) (by first | exact hI _ _ | assumption | exact ⟨by omega, by omega⟩) (fun c_100 => ?_) (fun c_100 => ?_)
                · omega
                · refine wa_iload dX5_markParts_103 rfl ?_
                  refine wa_if_lt 147 dX5_markParts_105 (by decide) (by first | exact hI _ _ | assumption | exact ⟨by omega, by omega⟩) (fun c_105 => ?_) (fun c_105 => ?_)
                  · refine wa_iinc dX5_markParts_147 rfl (by decide) ?_
                    refine wa_goto 31 dX5_markParts_150 (by decide) ?_
                    exact ihs _ _ _ _ (fun a a1 a2 a3 a4 => by rw [vup_n a2]; exact hf a a1 a2 a3 a4) nx
                  · omega
      · obtain ⟨q, hq⟩ : ∃ q : Nat, tmHome n (I 7) (I 5 t) = (q : Int) := ⟨(tmHome n (I 7) (I 5 t)).toNat, by have := e3 (by omega); omega⟩
        have hq5 : q < 50 := by have := e3 (by omega); omega
        have nx := hm.s2 hs hp hp5 hq hq5
        refine wa_iload_n dX5_markParts_31 rfl ?_
        refine wa_aload_n dX5_markParts_32 rfl ?_
        refine wt_getI dX5_markParts_33 FX5_52 (by assumption) ?_
        refine wa_icmp_ge 153 dX5_markParts_36 (by decide) (by first | exact hI _ _ | assumption | exact ⟨by omega, by omega⟩) (by first | exact hI _ _ | assumption | exact ⟨by omega, by omega⟩) (fun c_36 => ?_) (fun c_36 => ?_)
        · omega
        · refine wa_aload_n dX5_markParts_39 rfl ?_
          refine wa_aload_n dX5_markParts_40 rfl ?_
          refine wt_getR dX5_markParts_41 FX5_60 (by assumption) (by assumption) ?_
          refine wa_iload_n dX5_markParts_44 rfl ?_
          refine wt_iald _ dX5_markParts_45 (by assumption) rfl (by omega) ?_
          refine wa_callVf (ci := 8) dX5_markParts_46 KX8_homeOf LX5_63 ⟨_, _, rfl, by decide⟩ o2 (by have := c_homeOf (L := L') hL hn hn5 (I 4 t) (hI _ _); rw [hp] at this; exact this) (by decide) rfl rfl (Nat.le_of_ble_eq_true rfl) rfl rfl ?_
          refine wa_istore_n dX5_markParts_49 (by decide) ?_
          refine wa_aload_n dX5_markParts_50 rfl ?_
          refine wa_aload_n dX5_markParts_51 rfl ?_
          refine wt_getR dX5_markParts_52 FX5_67 (by assumption) (by assumption) ?_
          refine wa_iload_n dX5_markParts_55 rfl ?_
          refine wt_iald _ dX5_markParts_56 (by assumption) rfl (by omega) ?_
          refine wa_callVf (ci := 8) dX5_markParts_57 KX8_homeOf LX5_63 ⟨_, _, rfl, by decide⟩ o2 (by have := c_homeOf (L := L') hL hn hn5 (I 5 t) (hI _ _); rw [hq] at this; exact this) (by decide) rfl rfl (Nat.le_of_ble_eq_true rfl) rfl rfl ?_
          refine wa_istore dX5_markParts_60 (by decide) ?_
          refine wa_aload_n dX5_markParts_62 rfl ?_
          refine wt_getR dX5_markParts_63 FX5_57 (by assumption) (by assumption) ?_
          refine wa_iload_n dX5_markParts_66 rfl ?_
          refine wt_iald _ dX5_markParts_67 (by assumption) rfl (by omega) ?_
          refine wa_istore dX5_markParts_68 (by decide) ?_
          refine wa_iload_n dX5_markParts_70 rfl ?_
          refine wa_if_lt 99 dX5_markParts_71 (by decide) (by first | exact hI _ _ | assumption | exact ⟨by omega, by omega⟩) (fun c_71 => ?_) (fun c_71 => ?_)
          · omega
          · refine wa_iload dX5_markParts_74 rfl ?_
            refine wa_if_lt 99 dX5_markParts_76 (by decide) (by first | exact hI _ _ | assumption | exact ⟨by omega, by omega⟩) (fun c_76 => ?_) (fun c_76 => ?_)
            · omega
            · refine wa_iload dX5_markParts_79 rfl ?_
              refine wa_bipush dX5_markParts_81 rfl ?_
              refine wa_icmp_ge 99 dX5_markParts_83 (by decide) (by first | exact hI _ _ | assumption | exact ⟨by omega, by omega⟩) (by first | exact hI _ _ | assumption | exact ⟨by omega, by omega⟩) (fun c_83 => ?_) (fun c_83 => ?_)
              · omega
              · refine wa_aload_n dX5_markParts_86 rfl ?_
                refine wt_getR dX5_markParts_87 FX5_22 (by assumption) (by assumption) ?_
                refine wa_iload dX5_markParts_90 rfl ?_
                refine wa_dup2 dX5_markParts_92 rfl rfl ?_
                refine wt_lald s dX5_markParts_93 (by assumption) hs (by omega) ?_
                refine wa_lconst (v := 1) dX5_markParts_94 rfl ?_
                refine wa_iload_n dX5_markParts_95 rfl ?_
                refine wa_lshl dX5_markParts_96 rfl ?_
                refine wa_lor dX5_markParts_97 ?_
                refine wt_last s dX5_markParts_98 (by assumption) hs (by omega) ?_
                refine wa_iload_n dX5_markParts_99 rfl ?_
                refine wa_if_lt 147 dX5_markParts_100 (by decide) (by first | exact hI _ _ | assumption | exact ⟨by omega, by omega⟩) (fun c_100 => ?_) (fun c_100 => ?_)
                · omega
                · refine wa_iload dX5_markParts_103 rfl ?_
                  refine wa_if_lt 147 dX5_markParts_105 (by decide) (by first | exact hI _ _ | assumption | exact ⟨by omega, by omega⟩) (fun c_105 => ?_) (fun c_105 => ?_)
                  · omega
                  · refine wa_aload_n dX5_markParts_108 rfl ?_
                    refine wa_dup dX5_markParts_109 rfl ?_
                    refine wt_getL dX5_markParts_110 FX5_26 (by assumption) ?_
                    refine wa_lconst (v := 1) dX5_markParts_113 rfl ?_
                    refine wa_iload dX5_markParts_114 rfl ?_
                    refine wa_lshl dX5_markParts_116 rfl ?_
                    refine wa_lor dX5_markParts_117 ?_
                    refine wt_putL dX5_markParts_118 FX5_26 (WX5_4 _ _) (by assumption) ?_
                    refine wa_aload_n dX5_markParts_121 rfl ?_
                    refine wt_getR dX5_markParts_122 FX5_30 (by assumption) (by assumption) ?_
                    refine wa_iload dX5_markParts_125 rfl ?_
                    refine wa_dup2 dX5_markParts_127 rfl rfl ?_
                    refine wt_lald _ dX5_markParts_128 (by assumption) rfl (by omega) ?_
                    refine wa_lconst (v := 1) dX5_markParts_129 rfl ?_
                    refine wa_iload_n dX5_markParts_130 rfl ?_
                    refine wa_lshl dX5_markParts_131 rfl ?_
                    refine wa_lor dX5_markParts_132 ?_
                    refine wt_last _ dX5_markParts_133 (by assumption) rfl (by omega) ?_
                    refine wa_aload_n dX5_markParts_134 rfl ?_
                    refine wt_getR dX5_markParts_135 FX5_33 (by assumption) (by assumption) ?_
                    refine wa_iload_n dX5_markParts_138 rfl ?_
                    refine wa_dup2 dX5_markParts_139 rfl rfl ?_
                    refine wt_lald _ dX5_markParts_140 (by assumption) rfl (by omega) ?_
                    refine wa_lconst (v := 1) dX5_markParts_141 rfl ?_
                    refine wa_iload dX5_markParts_142 rfl ?_
                    refine wa_lshl dX5_markParts_144 rfl ?_
                    refine wa_lor dX5_markParts_145 ?_
                    refine wt_last _ dX5_markParts_146 (by assumption) rfl (by omega) ?_
                    simp only [vup_if, Nat.reduceEqDiff, ↓reduceIte]
                    refine wa_iinc dX5_markParts_147 rfl (by decide) ?_
                    refine wa_goto 31 dX5_markParts_150 (by decide) ?_
                    exact ihs _ _ _ _ (fun a a1 a2 a3 a4 => by simp (disch := assumption) only [vup_n]; exact hf a a1 a2 a3 a4) nx
end S23
