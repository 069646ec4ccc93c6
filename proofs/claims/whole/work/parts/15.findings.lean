/-! ===== 15: class Findings (f, its row of longs f + 1) ===== -/
def LFin (S : tmS) (f m : Nat) : Prop := tmObj S f 1 ∧ S.2.2.2 f 0 = some (f + 1) ∧ tmArr S (f + 1) 14 m
/-- a digit, 1 more than what it tells -/
def dg (v : Int) : Nat := (v + 1).toNat
def tmPk (r x y z p g : Int) : Int64 := lN (((((dg r * 64 + dg g) * 64 + dg p) * 64 + dg z) * 64 + dg y) * 64 + dg x)
abbrev isDg (v : Int) : Prop := -1 ≤ v ∧ v ≤ 62
theorem dg_lt {v : Int} (h : isDg v) : dg v < 64 := by unfold dg; have := h.1; have := h.2; omega
theorem dg_i2l {v : Int} (h : isDg v) : (Int32.ofInt (v + 1)).toInt64 = lN (dg v) := by
  have e : v + 1 = ((dg v : Nat) : Int) := by unfold dg; have := h.1; omega
  rw [e]
  exact nI_l (by have := dg_lt h; omega)
theorem dg_shl (a : Nat) : lN a <<< ((Int32.ofInt 6).toInt64 &&& 63) = lN (a * 64) := wb_shl a (k := 6) (by decide)
theorem dg_or {a b : Nat} (hb : b < 64) (h : a * 64 + b < 2 ^ 62) : lN (a * 64) ||| lN b = lN (a * 64 + b) := g_or (k := 6) (by decide) hb (by omega)
theorem dg_bits : ∀ k, k < 6 → (((Int32.ofInt (6 * (k : Nat))).toInt64 &&& 63).toBitVec.smod 64).toNat = 6 * k := by decide +kernel
theorem dg_get {N k : Nat} (hN : N < 2 ^ 62) (hk : k < 6) : ((lN N >>> ((Int32.ofInt (6 * (k : Nat))).toInt64 &&& 63)) &&& 63).toInt32 = Int32.ofInt ((N / 2 ^ (6 * k) % 64 : Nat)) := by
  rw [pf_shr (dg_bits k hk) hN]
  have h1 : N / 2 ^ (6 * k) < 2 ^ 64 := Nat.lt_of_le_of_lt (Nat.div_le_self _ _) (by omega)
  have h2 := g_mask (s := 6) (p := 64) (a := N / 2 ^ (6 * k)) (by decide) (by decide) h1
  rw [show (63 : Int64) = lN (64 - 1) from rfl, h2]
  exact lN_i _
/-- the part that 'what' tells of a FINDING -/
def tmPart (r x y z p g : Int) : Nat → Int
  | 0 => x
  | 1 => y
  | 2 => z
  | 3 => p
  | 4 => g
  | _ => r
theorem tmPk_get {r x y z p g : Int} (hr : isDg r) (hx : isDg x) (hy : isDg y) (hz : isDg z) (hp : isDg p) (hg : isDg g) {k : Nat} (hk : k < 6) : ((tmPk r x y z p g >>> ((Int32.ofInt (6 * (k : Nat))).toInt64 &&& 63)) &&& 63).toInt32 = Int32.ofInt (tmPart r x y z p g k + 1) := by
  have a1 := dg_lt hr; have a2 := dg_lt hx; have a3 := dg_lt hy; have a4 := dg_lt hz; have a5 := dg_lt hp; have a6 := dg_lt hg
  unfold tmPk
  rw [dg_get (by omega) hk]
  have e : ∀ v, isDg v → ((dg v : Nat) : Int) = v + 1 := fun v h => by unfold dg; have := h.1; omega
  obtain rfl | rfl | rfl | rfl | rfl | rfl : k = 0 ∨ k = 1 ∨ k = 2 ∨ k = 3 ∨ k = 4 ∨ k = 5 := by omega
  · rw [show ∀ a b : Nat, (a * 64 + b) / 2 ^ (6 * 0) % 64 = b % 64 from fun a b => by omega, Nat.mod_eq_of_lt a2, e _ hx]; rfl
  · rw [show (((((dg r * 64 + dg g) * 64 + dg p) * 64 + dg z) * 64 + dg y) * 64 + dg x) / 2 ^ (6 * 1) % 64 = dg y by omega, e _ hy]; rfl
  · rw [show (((((dg r * 64 + dg g) * 64 + dg p) * 64 + dg z) * 64 + dg y) * 64 + dg x) / 2 ^ (6 * 2) % 64 = dg z by omega, e _ hz]; rfl
  · rw [show (((((dg r * 64 + dg g) * 64 + dg p) * 64 + dg z) * 64 + dg y) * 64 + dg x) / 2 ^ (6 * 3) % 64 = dg p by omega, e _ hp]; rfl
  · rw [show (((((dg r * 64 + dg g) * 64 + dg p) * 64 + dg z) * 64 + dg y) * 64 + dg x) / 2 ^ (6 * 4) % 64 = dg g by omega, e _ hg]; rfl
  · rw [show (((((dg r * 64 + dg g) * 64 + dg p) * 64 + dg z) * 64 + dg y) * 64 + dg x) / 2 ^ (6 * 5) % 64 = dg r by omega, e _ hr]; rfl
section F15
variable {S : tmS} {I : Nat → Nat → Int} {L : Nat → Nat → Int64}
set_option maxRecDepth 20000 in
theorem c_isFull {f m sz : Nat} (hf : LFin S f m) (hs : I f 1 = (sz : Int)) (hm : sz ≤ m) : tmC yX1_isFull kX1_isFull 1 0 0 [tR f] (S, I, L) (tmF (some (tI (if sz < m then 0 else 1))) (S, I, L)) := by
  refine tmC.mk (lv := [some (tR f)]) 0 ⟨rfl, by decide +kernel, by decide⟩ rfl rfl ?_
  refine wt_ir (fun hI => ?_)
  obtain ⟨a0, a1, a2⟩ := hf
  have hb := a2.2.2.2
  refine wa_aload_n dX1_isFull_0 rfl ?_
  refine wt_getI dX1_isFull_1 FX1_9 (by assumption) ?_
  refine wa_aload_n dX1_isFull_4 rfl ?_
  refine wt_getR dX1_isFull_5 FX1_21 (by assumption) (by assumption) ?_
  refine wt_alen dX1_isFull_8 (by assumption) (by first | exact Or.inl rfl | exact Or.inr rfl) ?_
  refine wa_icmp_lt 16 dX1_isFull_9 (by decide) (by first | exact hI _ _ | exact ⟨by omega, by omega⟩ | assumption) (by first | exact hI _ _ | exact ⟨by omega, by omega⟩ | assumption) (fun c_9 => ?_) (fun c_9 => ?_)
  · refine wa_iconst dX1_isFull_16 ?_
    refine wa_zreturn dX1_isFull_17 rfl (by first | exact Or.inl rfl | exact Or.inr rfl) ?_
    exact ⟨by first | rw [if_pos (by omega)] | rw [if_neg (by omega)], rfl⟩
  · refine wa_iconst dX1_isFull_12 ?_
    refine wa_goto 17 dX1_isFull_13 (by decide) ?_
    refine wa_zreturn dX1_isFull_17 rfl (by first | exact Or.inl rfl | exact Or.inr rfl) ?_
    exact ⟨by first | rw [if_pos (by omega)] | rw [if_neg (by omega)], rfl⟩
set_option maxRecDepth 20000 in
set_option maxHeartbeats 1000000 in
theorem c_Fadd {f m sz : Nat} (hf : LFin S f m) (hs : I f 1 = (sz : Int)) (hm : sz < m) (r x y z p g : Int) (hr : isDg r) (hx : isDg x) (hy : isDg y) (hz : isDg z) (hp : isDg p) (hg : isDg g) :
    tmC yX1_add kX1_add 2 0 0 [tR f, tI r, tI x, tI y, tI z, tI p, tI g] (S, I, L) (tmF none (S, va_up I f (va_up (I f) 1 (sz + 1 : Nat)), va_up L (f + 1) (va_up (L (f + 1)) sz (tmPk r x y z p g)))) := by
  refine tmC.mk (lv := [some (tR f), some (tI r), some (tI x), some (tI y), some (tI z), some (tI p), some (tI g), none, none]) 2 ⟨rfl, by decide +kernel, by decide⟩ rfl rfl ?_
  refine wt_ir (fun hI => ?_)
  have hf0 := hf
  obtain ⟨a0, a1, a2⟩ := hf
  have hb := a2.2.2.2
  have d1 := dg_lt hr; have d2 := dg_lt hx; have d3 := dg_lt hy; have d4 := dg_lt hz; have d5 := dg_lt hp; have d6 := dg_lt hg
  refine wa_aload_n dX1_add_0 rfl ?_
  refine wa_callVf (ci := 1) dX1_add_1 KX1_isFull LX1_25 ⟨_, _, rfl, by decide⟩ (by assumption) (by have := c_isFull (L := L) hf0 hs (by omega); rw [if_pos hm] at this; exact this) (by decide) rfl rfl (Nat.le_of_ble_eq_true rfl) rfl rfl ?_
  refine wa_if_eq 8 dX1_add_4 (by decide) (by first | exact hI _ _ | exact ⟨by omega, by omega⟩ | assumption) (fun c_4 => ?_) (fun c_4 => ?_)
  · refine wa_iload_n dX1_add_8 rfl ?_
    refine wa_iconst dX1_add_9 ?_
    refine wa_iadd dX1_add_10 ?_
    refine wa_i2l dX1_add_11 (dg_i2l hr) ?_
    refine wa_lstore dX1_add_12 (by decide) ?_
    refine wa_lload dX1_add_14 rfl ?_
    refine wa_bipush dX1_add_16 rfl ?_
    refine wa_lshl dX1_add_18 (dg_shl _) ?_
    refine wa_iload dX1_add_19 rfl ?_
    refine wa_iconst dX1_add_21 ?_
    refine wa_iadd dX1_add_22 ?_
    refine wa_i2l dX1_add_23 (dg_i2l hg) ?_
    refine wa_lor dX1_add_24 ?_
    rw [dg_or d6 (by omega)]
    refine wa_lstore dX1_add_25 (by decide) ?_
    refine wa_lload dX1_add_27 rfl ?_
    refine wa_bipush dX1_add_29 rfl ?_
    refine wa_lshl dX1_add_31 (dg_shl _) ?_
    refine wa_iload dX1_add_32 rfl ?_
    refine wa_iconst dX1_add_34 ?_
    refine wa_iadd dX1_add_35 ?_
    refine wa_i2l dX1_add_36 (dg_i2l hp) ?_
    refine wa_lor dX1_add_37 ?_
    rw [dg_or d5 (by omega)]
    refine wa_lstore dX1_add_38 (by decide) ?_
    refine wa_lload dX1_add_40 rfl ?_
    refine wa_bipush dX1_add_42 rfl ?_
    refine wa_lshl dX1_add_44 (dg_shl _) ?_
    refine wa_iload dX1_add_45 rfl ?_
    refine wa_iconst dX1_add_47 ?_
    refine wa_iadd dX1_add_48 ?_
    refine wa_i2l dX1_add_49 (dg_i2l hz) ?_
    refine wa_lor dX1_add_50 ?_
    rw [dg_or d4 (by omega)]
    refine wa_lstore dX1_add_51 (by decide) ?_
    refine wa_lload dX1_add_53 rfl ?_
    refine wa_bipush dX1_add_55 rfl ?_
    refine wa_lshl dX1_add_57 (dg_shl _) ?_
    refine wa_iload_n dX1_add_58 rfl ?_
    refine wa_iconst dX1_add_59 ?_
    refine wa_iadd dX1_add_60 ?_
    refine wa_i2l dX1_add_61 (dg_i2l hy) ?_
    refine wa_lor dX1_add_62 ?_
    rw [dg_or d3 (by omega)]
    refine wa_lstore dX1_add_63 (by decide) ?_
    refine wa_lload dX1_add_65 rfl ?_
    refine wa_bipush dX1_add_67 rfl ?_
    refine wa_lshl dX1_add_69 (dg_shl _) ?_
    refine wa_iload_n dX1_add_70 rfl ?_
    refine wa_iconst dX1_add_71 ?_
    refine wa_iadd dX1_add_72 ?_
    refine wa_i2l dX1_add_73 (dg_i2l hx) ?_
    refine wa_lor dX1_add_74 ?_
    rw [dg_or d2 (by omega)]
    refine wa_lstore dX1_add_75 (by decide) ?_
    refine wa_aload_n dX1_add_77 rfl ?_
    refine wt_getR dX1_add_78 FX1_21 (by assumption) (by assumption) ?_
    refine wa_aload_n dX1_add_81 rfl ?_
    refine wt_getI dX1_add_82 FX1_9 (by assumption) ?_
    refine wa_lload dX1_add_85 rfl ?_
    refine wt_last sz dX1_add_87 (by assumption) hs (by omega) ?_
    refine wa_aload_n dX1_add_88 rfl ?_
    refine wa_dup dX1_add_89 rfl ?_
    refine wt_getI dX1_add_90 FX1_9 (by assumption) ?_
    refine wa_iconst dX1_add_93 ?_
    refine wa_iadd dX1_add_94 ?_
    refine wt_putI dX1_add_95 FX1_9 (WX1_1 _ _) (by assumption) (by exact ⟨by omega, by omega⟩) ?_
    refine wa_return dX1_add_98 rfl ?_
    refine ⟨rfl, ?_⟩
    rw [hs]
    rfl
  · omega
set_option maxRecDepth 20000 in
theorem c_FaddFrom {f m sz f2 m2 sz2 : Nat} (hf : LFin S f m) (hs : I f 1 = (sz : Int)) (hm : sz < m) (hf2 : LFin S f2 m2) (hs2 : I f2 1 = (sz2 : Int)) (hm2 : sz2 ≤ m2) (k : Nat) (hk : k < sz2) :
    tmC yX1_addFrom kX1_addFrom 2 0 0 [tR f, tR f2, tI k] (S, I, L) (tmF none (S, va_up I f (va_up (I f) 1 (sz + 1 : Nat)), va_up L (f + 1) (va_up (L (f + 1)) sz (L (f2 + 1) k)))) := by
  refine tmC.mk (lv := [some (tR f), some (tR f2), some (tI k)]) 0 ⟨rfl, by decide +kernel, by decide⟩ rfl rfl ?_
  refine wt_ir (fun hI => ?_)
  have hf0 := hf
  obtain ⟨a0, a1, a2⟩ := hf
  have hb := a2.2.2.2
  obtain ⟨b0, b1, b2⟩ := hf2
  have hb2 := b2.2.2.2
  refine wa_aload_n dX1_addFrom_0 rfl ?_
  refine wa_callVf (ci := 1) dX1_addFrom_1 KX1_isFull LX1_25 ⟨_, _, rfl, by decide⟩ a0 (by have := c_isFull (L := L) hf0 hs (by omega); rw [if_pos hm] at this; exact this) (by decide) rfl rfl (Nat.le_of_ble_eq_true rfl) rfl rfl ?_
  refine wa_if_ne 44 dX1_addFrom_4 (by decide) (by first | exact hI _ _ | exact ⟨by omega, by omega⟩ | assumption) (fun c_4 => ?_) (fun c_4 => ?_)
  · omega
  · refine wa_iload_n dX1_addFrom_7 rfl ?_
    refine wa_if_lt 44 dX1_addFrom_8 (by decide) (by first | exact hI _ _ | exact ⟨by omega, by omega⟩ | assumption) (fun c_8 => ?_) (fun c_8 => ?_)
    · omega
    · refine wa_iload_n dX1_addFrom_11 rfl ?_
      refine wa_aload_n dX1_addFrom_12 rfl ?_
      refine wt_getI dX1_addFrom_13 FX1_9 (by assumption) ?_
      refine wa_icmp_ge 44 dX1_addFrom_16 (by decide) (by first | exact hI _ _ | exact ⟨by omega, by omega⟩ | assumption) (by first | exact hI _ _ | exact ⟨by omega, by omega⟩ | assumption) (fun c_16 => ?_) (fun c_16 => ?_)
      · omega
      · refine wa_aload_n dX1_addFrom_19 rfl ?_
        refine wt_getR dX1_addFrom_20 FX1_21 (by assumption) (by assumption) ?_
        refine wa_aload_n dX1_addFrom_23 rfl ?_
        refine wt_getI dX1_addFrom_24 FX1_9 (by assumption) ?_
        refine wa_aload_n dX1_addFrom_27 rfl ?_
        refine wt_getR dX1_addFrom_28 FX1_21 (by assumption) (by assumption) ?_
        refine wa_iload_n dX1_addFrom_31 rfl ?_
        refine wt_lald _ dX1_addFrom_32 (by assumption) rfl (by omega) ?_
        refine wt_last sz dX1_addFrom_33 (by assumption) hs (by omega) ?_
        refine wa_aload_n dX1_addFrom_34 rfl ?_
        refine wa_dup dX1_addFrom_35 rfl ?_
        refine wt_getI dX1_addFrom_36 FX1_9 (by assumption) ?_
        refine wa_iconst dX1_addFrom_39 ?_
        refine wa_iadd dX1_addFrom_40 ?_
        refine wt_putI dX1_addFrom_41 FX1_9 (WX1_1 _ _) (by assumption) (by exact ⟨by omega, by omega⟩) ?_
        refine wa_return dX1_addFrom_44 rfl ?_
        refine ⟨rfl, ?_⟩
        rw [hs]
        rfl
set_option maxRecDepth 20000 in
theorem c_tellNo {f m sz : Nat} (hf : LFin S f m) (hs : I f 1 = (sz : Int)) (hm : sz ≤ m) (k w : Int) (hk : inR k) (hw : inR w) (hno : ¬ (0 ≤ k ∧ k < sz ∧ 0 ≤ w ∧ w ≤ 5)) : tmC yX1_tell kX1_tell 1 0 0 [tR f, tI k, tI w] (S, I, L) (tmF (some (tI (-1))) (S, I, L)) := by
  refine tmC.mk (lv := [some (tR f), some (tI k), some (tI w)]) 0 ⟨rfl, by decide +kernel, by decide⟩ rfl rfl ?_
  refine wt_ir (fun hI => ?_)
  obtain ⟨a0, a1, a2⟩ := hf
  refine wa_iload_n dX1_tell_0 rfl ?_
  refine wa_if_lt 21 dX1_tell_1 (by decide) (by first | exact hI _ _ | exact ⟨by omega, by omega⟩ | assumption) (fun c_1 => ?_) (fun c_1 => ?_)
  · refine wa_iconst dX1_tell_21 ?_
    refine wa_ireturn dX1_tell_22 rfl ?_
    exact ⟨rfl, rfl⟩
  · refine wa_iload_n dX1_tell_4 rfl ?_
    refine wa_aload_n dX1_tell_5 rfl ?_
    refine wt_getI dX1_tell_6 FX1_9 (by assumption) ?_
    refine wa_icmp_ge 21 dX1_tell_9 (by decide) (by first | exact hI _ _ | exact ⟨by omega, by omega⟩ | assumption) (by first | exact hI _ _ | exact ⟨by omega, by omega⟩ | assumption) (fun c_9 => ?_) (fun c_9 => ?_)
    · refine wa_iconst dX1_tell_21 ?_
      refine wa_ireturn dX1_tell_22 rfl ?_
      exact ⟨rfl, rfl⟩
    · refine wa_iload_n dX1_tell_12 rfl ?_
      refine wa_if_lt 21 dX1_tell_13 (by decide) (by first | exact hI _ _ | exact ⟨by omega, by omega⟩ | assumption) (fun c_13 => ?_) (fun c_13 => ?_)
      · refine wa_iconst dX1_tell_21 ?_
        refine wa_ireturn dX1_tell_22 rfl ?_
        exact ⟨rfl, rfl⟩
      · refine wa_iload_n dX1_tell_16 rfl ?_
        refine wa_iconst dX1_tell_17 ?_
        refine wa_icmp_le 23 dX1_tell_18 (by decide) (by first | exact hI _ _ | exact ⟨by omega, by omega⟩ | assumption) (by first | exact hI _ _ | exact ⟨by omega, by omega⟩ | assumption) (fun c_18 => ?_) (fun c_18 => ?_)
        · omega
        · refine wa_iconst dX1_tell_21 ?_
          refine wa_ireturn dX1_tell_22 rfl ?_
          exact ⟨rfl, rfl⟩
set_option maxRecDepth 20000 in
theorem c_tell {f m sz : Nat} (hf : LFin S f m) (hs : I f 1 = (sz : Int)) (hm : sz ≤ m) (k w : Nat) (hk : k < sz) (hw : w < 6) {r x y z p g : Int} (hr : isDg r) (hx : isDg x) (hy : isDg y) (hz : isDg z) (hp : isDg p) (hg : isDg g) (he : L (f + 1) k = tmPk r x y z p g) : tmC yX1_tell kX1_tell 1 0 0 [tR f, tI k, tI w] (S, I, L) (tmF (some (tI (tmPart r x y z p g w))) (S, I, L)) := by
  refine tmC.mk (lv := [some (tR f), some (tI k), some (tI w)]) 0 ⟨rfl, by decide +kernel, by decide⟩ rfl rfl ?_
  refine wt_ir (fun hI => ?_)
  obtain ⟨a0, a1, a2⟩ := hf
  have hb := a2.2.2.2
  refine wa_iload_n dX1_tell_0 rfl ?_
  refine wa_if_lt 21 dX1_tell_1 (by decide) (by first | exact hI _ _ | exact ⟨by omega, by omega⟩ | assumption) (fun c_1 => ?_) (fun c_1 => ?_)
  · omega
  · refine wa_iload_n dX1_tell_4 rfl ?_
    refine wa_aload_n dX1_tell_5 rfl ?_
    refine wt_getI dX1_tell_6 FX1_9 (by assumption) ?_
    refine wa_icmp_ge 21 dX1_tell_9 (by decide) (by first | exact hI _ _ | exact ⟨by omega, by omega⟩ | assumption) (by first | exact hI _ _ | exact ⟨by omega, by omega⟩ | assumption) (fun c_9 => ?_) (fun c_9 => ?_)
    · omega
    · refine wa_iload_n dX1_tell_12 rfl ?_
      refine wa_if_lt 21 dX1_tell_13 (by decide) (by first | exact hI _ _ | exact ⟨by omega, by omega⟩ | assumption) (fun c_13 => ?_) (fun c_13 => ?_)
      · omega
      · refine wa_iload_n dX1_tell_16 rfl ?_
        refine wa_iconst dX1_tell_17 ?_
        refine wa_icmp_le 23 dX1_tell_18 (by decide) (by first | exact hI _ _ | exact ⟨by omega, by omega⟩ | assumption) (by first | exact hI _ _ | exact ⟨by omega, by omega⟩ | assumption) (fun c_18 => ?_) (fun c_18 => ?_)
        · refine wa_aload_n dX1_tell_23 rfl ?_
          refine wt_getR dX1_tell_24 FX1_21 (by assumption) (by assumption) ?_
          refine wa_iload_n dX1_tell_27 rfl ?_
          refine wt_lald _ dX1_tell_28 (by assumption) rfl (by omega) ?_
          refine wa_bipush dX1_tell_29 rfl ?_
          refine wa_iload_n dX1_tell_31 rfl ?_
          refine wa_imul dX1_tell_32 ?_
          refine wa_lshr dX1_tell_33 rfl ?_
          refine wa_ldc2 dX1_tell_34 QX1_29 ?_
          refine wa_land dX1_tell_37 ?_
          refine wa_l2i dX1_tell_38 (r := tmPart r x y z p g w + 1) (by rw [he]; exact tmPk_get hr hx hy hz hp hg hw) ?_
          refine wa_iconst dX1_tell_39 ?_
          refine wa_isub dX1_tell_40 ?_
          refine wa_ireturn dX1_tell_41 rfl ?_
          exact ⟨by congr 2; omega, rfl⟩
        · omega
set_option maxRecDepth 20000 in
theorem c_isLate {f m sz : Nat} (hf : LFin S f m) (hs : I f 1 = (sz : Int)) (hm : sz ≤ m) (k : Nat) (hk : k < sz) (lim : Int) (hlim : inR lim) {r x y z p g : Int} (hr : isDg r) (hx : isDg x) (hy : isDg y) (hz : isDg z) (hp : isDg p) (hg : isDg g) (he : L (f + 1) k = tmPk r x y z p g) : tmC yX1_isLate kX1_isLate 2 0 0 [tR f, tI k, tI lim] (S, I, L) (tmF (some (tI (if lim < g then 1 else 0))) (S, I, L)) := by
  refine tmC.mk (lv := [some (tR f), some (tI k), some (tI lim)]) 0 ⟨rfl, by decide +kernel, by decide⟩ rfl rfl ?_
  refine wt_ir (fun hI => ?_)
  have a0 := hf.1
  have hg' : inR g := ⟨by have := hg.1; omega, by have := hg.2; omega⟩
  refine wa_aload_n dX1_isLate_0 rfl ?_
  refine wa_iload_n dX1_isLate_1 rfl ?_
  refine wa_iconst dX1_isLate_2 ?_
  refine wa_callVf (ci := 1) dX1_isLate_3 KX1_tell LX1_31 ⟨_, _, rfl, by decide⟩ (by assumption) (c_tell hf hs hm k 4 hk (by decide) hr hx hy hz hp hg he) (by decide) rfl rfl (Nat.le_of_ble_eq_true rfl) rfl rfl ?_
  refine wa_iload_n dX1_isLate_6 rfl ?_
  refine wa_icmp_le 14 dX1_isLate_7 (by decide) (by first | assumption | exact hg') (by first | assumption | exact hg') (fun c_7 => ?_) (fun c_7 => ?_)
  · refine wa_iconst dX1_isLate_14 ?_
    refine wa_zreturn dX1_isLate_15 rfl (by first | exact Or.inl rfl | exact Or.inr rfl) ?_
    exact ⟨by first | rw [if_pos (by simp only [tmPart] at c_7; omega)] | rw [if_neg (by simp only [tmPart] at c_7; omega)], rfl⟩
  · refine wa_iconst dX1_isLate_10 ?_
    refine wa_goto 15 dX1_isLate_11 (by decide) ?_
    refine wa_zreturn dX1_isLate_15 rfl (by first | exact Or.inl rfl | exact Or.inr rfl) ?_
    exact ⟨by first | rw [if_pos (by simp only [tmPart] at c_7; omega)] | rw [if_neg (by simp only [tmPart] at c_7; omega)], rfl⟩
end F15
