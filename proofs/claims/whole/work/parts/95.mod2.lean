/-! ===== 95: the reference: classesOf, joins, isPart, closes ===== -/
section S95
variable {S : tmS} {I : Nat → Nat → Int} {L : Nat → Nat → Int64}
set_option maxRecDepth 20000 in
theorem mclasses_loop (hL : LX S) (n : Nat) (hn5 : n ≤ 50) : ∀ (k t c : Nat), t + k = n → c ≤ t →
    tmW kX12_classesOf 2 0 0 4 [some (tR 168), some (tI n), some (tI c), some (tI t)] [] (S, I, L) (tmF (some (tI ((c + tmCnt (fun t => I 169 (202 + t) = t) k t : Nat) : Int))) (S, I, L)) := by
  intro k
  have o168 := oX168 hL
  have r168_0 := rX168_0 hL
  have r168_1 := rX168_1 hL
  have r168_3 := rX168_3 hL
  have r168_4 := rX168_4 hL
  have r168_5 := rX168_5 hL
  have r168_6 := rX168_6 hL
  have r168_7 := rX168_7 hL
  have r168_8 := rX168_8 hL
  have r168_11 := rX168_11 hL
  have r168_13 := rX168_13 hL
  have r168_17 := rX168_17 hL
  have r168_18 := rX168_18 hL
  have r168_19 := rX168_19 hL
  have r168_21 := rX168_21 hL
  have r168_22 := rX168_22 hL
  have r168_23 := rX168_23 hL
  have r168_24 := rX168_24 hL
  have r168_25 := rX168_25 hL
  have r168_26 := rX168_26 hL
  have r168_27 := rX168_27 hL
  have r168_28 := rX168_28 hL
  have r168_29 := rX168_29 hL
  have r168_30 := rX168_30 hL
  induction k with
  | zero =>
    intro t c ht hc
    refine wa_iload_n dX12_classesOf_4 rfl ?_
    refine wa_iload_n dX12_classesOf_5 rfl ?_
    refine wa_icmp_ge 32 dX12_classesOf_6 (by decide) (by exact ⟨by omega, by omega⟩) (by exact ⟨by omega, by omega⟩) (fun c_6 => ?_) (fun c_6 => ?_)
    · refine wa_iload_n dX12_classesOf_32 rfl ?_
      refine wa_ireturn dX12_classesOf_33 rfl ?_
      exact ⟨rfl, rfl⟩
    · omega
  | succ k ih =>
    intro t c ht hc
    refine wt_ir (fun hI => ?_)
    simp only [tmCnt]
    have h1 := c_mclassOf (I := I) (L := L) hL t (by omega)
    by_cases z : I 169 (202 + t) = (t : Int)
    · rw [if_pos z]
      have := ih (t + 1) (c + 1) (by omega) (by omega)
      rw [show c + 1 + tmCnt (fun t => I 169 (202 + t) = t) k (t + 1) = c + (1 + tmCnt (fun t => I 169 (202 + t) = t) k (t + 1)) by omega] at this
      refine wa_iload_n dX12_classesOf_4 rfl ?_
      refine wa_iload_n dX12_classesOf_5 rfl ?_
      refine wa_icmp_ge 32 dX12_classesOf_6 (by decide) (by first | exact hI _ _ | exact ⟨by omega, by omega⟩) (by first | exact hI _ _ | exact ⟨by omega, by omega⟩) (fun c_6 => ?_) (fun c_6 => ?_)
      · omega
      · refine wa_iload_n dX12_classesOf_9 rfl ?_
        refine wa_aload_n dX12_classesOf_10 rfl ?_
        refine wa_iload_n dX12_classesOf_11 rfl ?_
        refine wa_callVf (ci := 12) dX12_classesOf_12 KX12_classOf LX12_95 ⟨_, _, rfl, by decide⟩ o168 (h1) (by decide) rfl rfl (Nat.le_of_ble_eq_true rfl) rfl rfl ?_
        refine wa_iload_n dX12_classesOf_15 rfl ?_
        refine wa_icmp_ne 23 dX12_classesOf_16 (by decide) (by first | exact hI _ _ | exact ⟨by omega, by omega⟩) (by first | exact hI _ _ | exact ⟨by omega, by omega⟩) (fun c_16 => ?_) (fun c_16 => ?_)
        · exact absurd z c_16
        · refine wa_iconst dX12_classesOf_19 ?_
          refine wa_goto 24 dX12_classesOf_20 (by decide) ?_
          refine wa_iadd dX12_classesOf_24 ?_
          refine wa_istore_n dX12_classesOf_25 (by decide) ?_
          refine wa_iinc dX12_classesOf_26 rfl (by decide) ?_
          refine wa_goto 4 dX12_classesOf_29 (by decide) ?_
          exact this
    · rw [if_neg z]
      have := ih (t + 1) c (by omega) (by omega)
      rw [show c + tmCnt (fun t => I 169 (202 + t) = t) k (t + 1) = c + (0 + tmCnt (fun t => I 169 (202 + t) = t) k (t + 1)) by omega] at this
      refine wa_iload_n dX12_classesOf_4 rfl ?_
      refine wa_iload_n dX12_classesOf_5 rfl ?_
      refine wa_icmp_ge 32 dX12_classesOf_6 (by decide) (by first | exact hI _ _ | exact ⟨by omega, by omega⟩) (by first | exact hI _ _ | exact ⟨by omega, by omega⟩) (fun c_6 => ?_) (fun c_6 => ?_)
      · omega
      · refine wa_iload_n dX12_classesOf_9 rfl ?_
        refine wa_aload_n dX12_classesOf_10 rfl ?_
        refine wa_iload_n dX12_classesOf_11 rfl ?_
        refine wa_callVf (ci := 12) dX12_classesOf_12 KX12_classOf LX12_95 ⟨_, _, rfl, by decide⟩ o168 (h1) (by decide) rfl rfl (Nat.le_of_ble_eq_true rfl) rfl rfl ?_
        refine wa_iload_n dX12_classesOf_15 rfl ?_
        refine wa_icmp_ne 23 dX12_classesOf_16 (by decide) (by first | exact hI _ _ | exact ⟨by omega, by omega⟩) (by first | exact hI _ _ | exact ⟨by omega, by omega⟩) (fun c_16 => ?_) (fun c_16 => ?_)
        · refine wa_iconst dX12_classesOf_23 ?_
          refine wa_iadd dX12_classesOf_24 ?_
          rw [Int.add_zero]
          refine wa_istore_n dX12_classesOf_25 (by decide) ?_
          refine wa_iinc dX12_classesOf_26 rfl (by decide) ?_
          refine wa_goto 4 dX12_classesOf_29 (by decide) ?_
          exact this
        · exact absurd c_16 z
theorem c_mclassesOf (hL : LX S) (n : Nat) (hn5 : n ≤ 50) : tmC yX12_classesOf kX12_classesOf 2 0 0 [tR 168, tI n] (S, I, L) (tmF (some (tI ((tmCnt (fun t => I 169 (202 + t) = t) n 0 : Nat) : Int))) (S, I, L)) := by
  refine tmC.mk (lv := [some (tR 168), some (tI n), none, none]) 2 ⟨rfl, by decide +kernel, by decide⟩ rfl rfl ?_
  have lp := mclasses_loop (I := I) (L := L) hL n hn5 n 0 0 (by omega) (by omega)
  rw [Nat.zero_add] at lp
  refine wa_iconst dX12_classesOf_0 ?_
  refine wa_istore_n dX12_classesOf_1 (by decide) ?_
  refine wa_iconst dX12_classesOf_2 ?_
  refine wa_istore_n dX12_classesOf_3 (by decide) ?_
  exact lp
/-- classesOf, of TERMS told -/
theorem c_mnCls (hL : LX S) {X : TS} (hX : MT I X) (hn5 : X.1 ≤ 50) {n : Nat} (hn : n ≤ X.1) : tmC yX12_classesOf kX12_classesOf 2 0 0 [tR 168, tI n] (S, I, L) (tmF (some (tI (nCls n X.2.2.2.2.2 : Nat))) (S, I, L)) := by
  have := c_mclassesOf (I := I) (L := L) hL n (by omega)
  rw [tmCnt_congr (P := fun t => I 169 (202 + t) = t) (P' := fun t => X.2.2.2.2.2 t = t) n 0 (fun y _ hy => by rw [(hX.2 y (by omega)).2.2.2.2])] at this
  exact this
theorem c_misPart (hL : LX S) {n : Nat} {ho : Nat → Int} (hh : HO n ho) (hr : ∀ t, t < n → I 169 (202 + t) = ho t) (hn5 : n ≤ 50) (p q : Int) (hp : -1 ≤ p ∧ p < n) (hq : -1 ≤ q ∧ q < n) : tmC yX12_isPart kX12_isPart 2 0 0 [tR 168, tI p, tI q] (S, I, L) (tmF (some (tI (if tmHome n ho p = tmHome n ho q then 1 else 0))) (S, I, L)) := by
  refine tmC.mk (lv := [some (tR 168), some (tI p), some (tI q)]) 0 ⟨rfl, by decide +kernel, by decide⟩ rfl rfl ?_
  have o168 := oX168 hL
  have r168_0 := rX168_0 hL
  have r168_1 := rX168_1 hL
  have r168_3 := rX168_3 hL
  have r168_4 := rX168_4 hL
  have r168_5 := rX168_5 hL
  have r168_6 := rX168_6 hL
  have r168_7 := rX168_7 hL
  have r168_8 := rX168_8 hL
  have r168_11 := rX168_11 hL
  have r168_13 := rX168_13 hL
  have r168_17 := rX168_17 hL
  have r168_18 := rX168_18 hL
  have r168_19 := rX168_19 hL
  have r168_21 := rX168_21 hL
  have r168_22 := rX168_22 hL
  have r168_23 := rX168_23 hL
  have r168_24 := rX168_24 hL
  have r168_25 := rX168_25 hL
  have r168_26 := rX168_26 hL
  have r168_27 := rX168_27 hL
  have r168_28 := rX168_28 hL
  have r168_29 := rX168_29 hL
  have r168_30 := rX168_30 hL
  refine wt_ir (fun hI => ?_)
  by_cases c1 : p < 0
  · have e1 : tmHome n ho p = -1 := tmHome_out (by omega)
    by_cases c2 : q < 0
    · have e2 : tmHome n ho q = -1 := tmHome_out (by omega)
      rw [e1, e2, if_pos rfl]
      refine wa_iload_n dX12_isPart_0 rfl ?_
      refine wa_if_ge 16 dX12_isPart_1 (by decide) (by exact ⟨by omega, by omega⟩) (fun c_1 => ?_) (fun c_1 => ?_)
      · omega
      · refine wa_iload_n dX12_isPart_4 rfl ?_
        refine wa_if_ge 12 dX12_isPart_5 (by decide) (by exact ⟨by omega, by omega⟩) (fun c_5 => ?_) (fun c_5 => ?_)
        · omega
        · refine wa_iconst dX12_isPart_8 ?_
          refine wa_goto 38 dX12_isPart_9 (by decide) ?_
          refine wa_zreturn dX12_isPart_38 rfl (by first | exact Or.inl rfl | exact Or.inr rfl) ?_
          exact ⟨rfl, rfl⟩
    · have e2 : tmHome n ho q = ho q.toNat := tmHome_in ⟨by omega, by omega⟩
      have := hh q.toNat (by omega)
      rw [e1, e2, if_neg (by omega)]
      refine wa_iload_n dX12_isPart_0 rfl ?_
      refine wa_if_ge 16 dX12_isPart_1 (by decide) (by exact ⟨by omega, by omega⟩) (fun c_1 => ?_) (fun c_1 => ?_)
      · omega
      · refine wa_iload_n dX12_isPart_4 rfl ?_
        refine wa_if_ge 12 dX12_isPart_5 (by decide) (by exact ⟨by omega, by omega⟩) (fun c_5 => ?_) (fun c_5 => ?_)
        · refine wa_iconst dX12_isPart_12 ?_
          refine wa_goto 38 dX12_isPart_13 (by decide) ?_
          refine wa_zreturn dX12_isPart_38 rfl (by first | exact Or.inl rfl | exact Or.inr rfl) ?_
          exact ⟨rfl, rfl⟩
        · omega
  · have e1 : tmHome n ho p = ho p.toNat := tmHome_in ⟨by omega, by omega⟩
    have hp' := hh p.toNat (by omega)
    by_cases c2 : q < 0
    · have e2 : tmHome n ho q = -1 := tmHome_out (by omega)
      rw [e1, e2, if_neg (by omega)]
      refine wa_iload_n dX12_isPart_0 rfl ?_
      refine wa_if_ge 16 dX12_isPart_1 (by decide) (by exact ⟨by omega, by omega⟩) (fun c_1 => ?_) (fun c_1 => ?_)
      · refine wa_iload_n dX12_isPart_16 rfl ?_
        refine wa_if_lt 37 dX12_isPart_17 (by decide) (by exact ⟨by omega, by omega⟩) (fun c_17 => ?_) (fun c_17 => ?_)
        · refine wa_iconst dX12_isPart_37 ?_
          refine wa_zreturn dX12_isPart_38 rfl (by first | exact Or.inl rfl | exact Or.inr rfl) ?_
          exact ⟨rfl, rfl⟩
        · omega
      · omega
    · have e2 : tmHome n ho q = ho q.toNat := tmHome_in ⟨by omega, by omega⟩
      have k1 := c_mclassOf (I := I) (L := L) hL p.toNat (by omega)
      have k2 := c_mclassOf (I := I) (L := L) hL q.toNat (by omega)
      rw [hr _ (by omega), show ((p.toNat : Nat) : Int) = p by omega] at k1
      rw [hr _ (by omega), show ((q.toNat : Nat) : Int) = q by omega] at k2
      have hq' := hh q.toNat (by omega)
      rw [e1, e2]
      refine wa_iload_n dX12_isPart_0 rfl ?_
      refine wa_if_ge 16 dX12_isPart_1 (by decide) (by exact ⟨by omega, by omega⟩) (fun c_1 => ?_) (fun c_1 => ?_)
      · refine wa_iload_n dX12_isPart_16 rfl ?_
        refine wa_if_lt 37 dX12_isPart_17 (by decide) (by exact ⟨by omega, by omega⟩) (fun c_17 => ?_) (fun c_17 => ?_)
        · omega
        · refine wa_aload_n dX12_isPart_20 rfl ?_
          refine wa_iload_n dX12_isPart_21 rfl ?_
          refine wa_callVf (ci := 12) dX12_isPart_22 KX12_classOf LX12_95 ⟨_, _, rfl, by decide⟩ o168 (k1) (by decide) rfl rfl (Nat.le_of_ble_eq_true rfl) rfl rfl ?_
          refine wa_aload_n dX12_isPart_25 rfl ?_
          refine wa_iload_n dX12_isPart_26 rfl ?_
          refine wa_callVf (ci := 12) dX12_isPart_27 KX12_classOf LX12_95 ⟨_, _, rfl, by decide⟩ o168 (k2) (by decide) rfl rfl (Nat.le_of_ble_eq_true rfl) rfl rfl ?_
          refine wa_icmp_ne 37 dX12_isPart_30 (by decide) (by exact ⟨by omega, by omega⟩) (by exact ⟨by omega, by omega⟩) (fun c_30 => ?_) (fun c_30 => ?_)
          · refine wa_iconst dX12_isPart_37 ?_
            refine wa_zreturn dX12_isPart_38 rfl (Or.inl rfl) ?_
            rw [if_neg c_30]
            exact ⟨rfl, rfl⟩
          · refine wa_iconst dX12_isPart_33 ?_
            refine wa_goto 38 dX12_isPart_34 (by decide) ?_
            refine wa_zreturn dX12_isPart_38 rfl (by first | exact Or.inl rfl | exact Or.inr rfl) ?_
            rw [if_pos c_30]
            exact ⟨rfl, rfl⟩
      · omega
/-- the row of CLASSES, joined up to k -/
def mJr (n : Nat) (hi lo : Int) (f : Nat → Int) (k : Nat) : Nat → Int := fun j => if 202 ≤ j ∧ j < 202 + k ∧ f j = hi then lo else f j
theorem mJr_0 {n : Nat} {hi lo : Int} {f : Nat → Int} : mJr n hi lo f 0 = f := by funext j; unfold mJr; rw [if_neg (by omega)]
theorem mJr_y {n : Nat} {hi lo : Int} {f : Nat → Int} {k : Nat} (h : f (202 + k) = hi) : va_up (mJr n hi lo f k) (202 + k) lo = mJr n hi lo f (k + 1) := by
  funext j
  unfold mJr
  by_cases e : j = 202 + k
  · subst e; rw [vup_s, if_pos ⟨by omega, by omega, h⟩]
  · rw [vup_n e]
    by_cases z : 202 ≤ j ∧ j < 202 + k ∧ f j = hi
    · rw [if_pos z, if_pos (by omega)]
    · rw [if_neg z, if_neg (by omega)]
theorem mJr_n {n : Nat} {hi lo : Int} {f : Nat → Int} {k : Nat} (h : ¬ f (202 + k) = hi) : mJr n hi lo f k = mJr n hi lo f (k + 1) := by
  funext j
  unfold mJr
  by_cases e : j = 202 + k
  · subst e; rw [if_neg (by omega), if_neg (fun z => h z.2.2)]
  · by_cases z : 202 ≤ j ∧ j < 202 + k ∧ f j = hi
    · rw [if_pos z, if_pos (by omega)]
    · rw [if_neg z, if_neg (by omega)]
theorem mJr_at {n : Nat} {hi lo : Int} {f : Nat → Int} {k : Nat} : mJr n hi lo f k (202 + k) = f (202 + k) := by unfold mJr; rw [if_neg (by omega)]
set_option maxRecDepth 20000 in
theorem mjoins_loop (hL : LX S) {n : Nat} (hn : I 169 0 = (n : Int)) (hn5 : n ≤ 50) {t u a b lo hi : Int} (hlo : inR lo) (hhi : inR hi) (Q : Option tmV → tmH → Prop) (kk : tmW kX12_joins 2 0 0 104 [some (tR 168), some (tI t), some (tI u), some (tI a), some (tI b), some (tI lo), some (tI hi), some (tI n)] [] (S, va_up I 169 (mJr n hi lo (I 169) n), L) Q) : ∀ (j k : Nat), k + j = n →
    tmW kX12_joins 2 0 0 44 [some (tR 168), some (tI t), some (tI u), some (tI a), some (tI b), some (tI lo), some (tI hi), some (tI k)] [] (S, va_up I 169 (mJr n hi lo (I 169) k), L) Q := by
  intro j
  have o168 := oX168 hL
  have r168_0 := rX168_0 hL
  have r168_1 := rX168_1 hL
  have r168_3 := rX168_3 hL
  have r168_4 := rX168_4 hL
  have r168_5 := rX168_5 hL
  have r168_6 := rX168_6 hL
  have r168_7 := rX168_7 hL
  have r168_8 := rX168_8 hL
  have r168_11 := rX168_11 hL
  have r168_13 := rX168_13 hL
  have r168_17 := rX168_17 hL
  have r168_18 := rX168_18 hL
  have r168_19 := rX168_19 hL
  have r168_21 := rX168_21 hL
  have r168_22 := rX168_22 hL
  have r168_23 := rX168_23 hL
  have r168_24 := rX168_24 hL
  have r168_25 := rX168_25 hL
  have r168_26 := rX168_26 hL
  have r168_27 := rX168_27 hL
  have r168_28 := rX168_28 hL
  have r168_29 := rX168_29 hL
  have r168_30 := rX168_30 hL
  have o169 := oX169 hL
  have e0 : ∀ k, mJr n hi lo (I 169) k 0 = (n : Int) := fun k => by unfold mJr; rw [if_neg (by omega)]; exact hn
  induction j with
  | zero =>
    intro k hk
    obtain rfl : k = n := by omega
    refine wa_iload dX12_joins_44 rfl ?_
    refine wa_aload_n dX12_joins_46 rfl ?_
    refine wt_getR dX12_joins_47 FX12_7 (by assumption) (by assumption) ?_
    refine wa_iconst dX12_joins_50 ?_
    refine wt_iald 0 dX12_joins_51 (by assumption) rfl (by omega) ?_
    try first | rw [vup_s, e0] | skip
    refine wa_icmp_ge 104 dX12_joins_52 (by decide) (by exact ⟨by omega, by omega⟩) (by exact ⟨by omega, by omega⟩) (fun c_52 => ?_) (fun c_52 => ?_)
    · exact kk
    · omega
  | succ j ih =>
    intro k hk
    refine wt_ir (fun hI => ?_)
    have hIr : inR (I 169 (202 + k)) := by have := hI 169 (202 + k); rw [vup_s, mJr_at] at this; exact this
    have nx := ih (k + 1) (by omega)
    by_cases z : I 169 (202 + k) = hi
    · rw [← mJr_y z] at nx
      refine wa_iload dX12_joins_44 rfl ?_
      refine wa_aload_n dX12_joins_46 rfl ?_
      refine wt_getR dX12_joins_47 FX12_7 (by assumption) (by assumption) ?_
      refine wa_iconst dX12_joins_50 ?_
      refine wt_iald 0 dX12_joins_51 (by assumption) rfl (by omega) ?_
      try first | rw [vup_s, e0] | rw [vup_s, mJr_at] | skip
      refine wa_icmp_ge 104 dX12_joins_52 (by decide) (by first | exact hlo | exact hhi | exact hIr | exact ⟨by omega, by omega⟩) (by first | exact hlo | exact hhi | exact hIr | exact ⟨by omega, by omega⟩) (fun c_52 => ?_) (fun c_52 => ?_)
      · omega
      · refine wa_aload_n dX12_joins_55 rfl ?_
        refine wt_getR dX12_joins_56 FX12_7 (by assumption) (by assumption) ?_
        refine wa_sipush dX12_joins_59 rfl ?_
        refine wa_iload dX12_joins_62 rfl ?_
        refine wa_iadd dX12_joins_64 ?_
        refine wa_aload_n dX12_joins_65 rfl ?_
        refine wt_getR dX12_joins_66 FX12_7 (by assumption) (by assumption) ?_
        refine wa_sipush dX12_joins_69 rfl ?_
        refine wa_iload dX12_joins_72 rfl ?_
        refine wa_iadd dX12_joins_74 ?_
        refine wt_iald (202 + k) dX12_joins_75 (by assumption) (by omega) (by omega) ?_
        try first | rw [vup_s, e0] | rw [vup_s, mJr_at] | skip
        refine wa_iload dX12_joins_76 rfl ?_
        refine wa_icmp_ne 86 dX12_joins_78 (by decide) (by first | exact hlo | exact hhi | exact hIr | exact ⟨by omega, by omega⟩) (by first | exact hlo | exact hhi | exact hIr | exact ⟨by omega, by omega⟩) (fun c_78 => ?_) (fun c_78 => ?_)
        · exact absurd z c_78
        · refine wa_iload dX12_joins_81 rfl ?_
          refine wa_goto 97 dX12_joins_83 (by decide) ?_
          refine wt_iast (202 + k) dX12_joins_97 (by assumption) (by omega) (by omega) (by first | exact hlo | exact hhi | exact hIr | exact ⟨by omega, by omega⟩) ?_
          rw [vup_vup, vup_s]
          refine wa_iinc dX12_joins_98 rfl (by decide) ?_
          refine wa_goto 44 dX12_joins_101 (by decide) ?_
          exact nx
    · rw [← mJr_n z] at nx
      have eself : va_up (mJr n hi lo (I 169) k) (202 + k) (I 169 (202 + k)) = mJr n hi lo (I 169) k := by
        have := vup_self (mJr n hi lo (I 169) k) (202 + k)
        rw [mJr_at] at this; exact this
      refine wa_iload dX12_joins_44 rfl ?_
      refine wa_aload_n dX12_joins_46 rfl ?_
      refine wt_getR dX12_joins_47 FX12_7 (by assumption) (by assumption) ?_
      refine wa_iconst dX12_joins_50 ?_
      refine wt_iald 0 dX12_joins_51 (by assumption) rfl (by omega) ?_
      try first | rw [vup_s, e0] | rw [vup_s, mJr_at] | skip
      refine wa_icmp_ge 104 dX12_joins_52 (by decide) (by first | exact hlo | exact hhi | exact hIr | exact ⟨by omega, by omega⟩) (by first | exact hlo | exact hhi | exact hIr | exact ⟨by omega, by omega⟩) (fun c_52 => ?_) (fun c_52 => ?_)
      · omega
      · refine wa_aload_n dX12_joins_55 rfl ?_
        refine wt_getR dX12_joins_56 FX12_7 (by assumption) (by assumption) ?_
        refine wa_sipush dX12_joins_59 rfl ?_
        refine wa_iload dX12_joins_62 rfl ?_
        refine wa_iadd dX12_joins_64 ?_
        refine wa_aload_n dX12_joins_65 rfl ?_
        refine wt_getR dX12_joins_66 FX12_7 (by assumption) (by assumption) ?_
        refine wa_sipush dX12_joins_69 rfl ?_
        refine wa_iload dX12_joins_72 rfl ?_
        refine wa_iadd dX12_joins_74 ?_
        refine wt_iald (202 + k) dX12_joins_75 (by assumption) (by omega) (by omega) ?_
        try first | rw [vup_s, e0] | rw [vup_s, mJr_at] | skip
        refine wa_iload dX12_joins_76 rfl ?_
        refine wa_icmp_ne 86 dX12_joins_78 (by decide) (by first | exact hlo | exact hhi | exact hIr | exact ⟨by omega, by omega⟩) (by first | exact hlo | exact hhi | exact hIr | exact ⟨by omega, by omega⟩) (fun c_78 => ?_) (fun c_78 => ?_)
        · refine wa_aload_n dX12_joins_86 rfl ?_
          refine wt_getR dX12_joins_87 FX12_7 (by assumption) (by assumption) ?_
          refine wa_sipush dX12_joins_90 rfl ?_
          refine wa_iload dX12_joins_93 rfl ?_
          refine wa_iadd dX12_joins_95 ?_
          refine wt_iald (202 + k) dX12_joins_96 (by assumption) (by omega) (by omega) ?_
          try first | rw [vup_s, e0] | rw [vup_s, mJr_at] | skip
          refine wt_iast (202 + k) dX12_joins_97 (by assumption) (by omega) (by omega) (by first | exact hlo | exact hhi | exact hIr | exact ⟨by omega, by omega⟩) ?_
          rw [vup_vup, vup_s, eself]
          refine wa_iinc dX12_joins_98 rfl (by decide) ?_
          refine wa_goto 44 dX12_joins_101 (by decide) ?_
          exact nx
        · exact absurd c_78 z
set_option maxRecDepth 20000 in
theorem c_mjoins (hL : LX S) {X : TS} (hX : MT I X) (hok : TsOK X) (t u : Nat) (ht : t < X.1) (hu : u < X.1) : tmC yX12_joins kX12_joins 2 0 0 [tR 168, tI t, tI u] (S, I, L) (fun r h' => r = some (tI (if X.2.2.2.2.2 t = X.2.2.2.2.2 u then 0 else 1)) ∧ ∃ I', h' = (S, I', L) ∧ MT I' (jnX X t u) ∧ MFx I I') := by
  refine tmC.mk (lv := [some (tR 168), some (tI t), some (tI u), none, none, none, none, none]) 5 ⟨rfl, by decide +kernel, by decide⟩ rfl rfl ?_
  have o168 := oX168 hL
  have r168_0 := rX168_0 hL
  have r168_1 := rX168_1 hL
  have r168_3 := rX168_3 hL
  have r168_4 := rX168_4 hL
  have r168_5 := rX168_5 hL
  have r168_6 := rX168_6 hL
  have r168_7 := rX168_7 hL
  have r168_8 := rX168_8 hL
  have r168_11 := rX168_11 hL
  have r168_13 := rX168_13 hL
  have r168_17 := rX168_17 hL
  have r168_18 := rX168_18 hL
  have r168_19 := rX168_19 hL
  have r168_21 := rX168_21 hL
  have r168_22 := rX168_22 hL
  have r168_23 := rX168_23 hL
  have r168_24 := rX168_24 hL
  have r168_25 := rX168_25 hL
  have r168_26 := rX168_26 hL
  have r168_27 := rX168_27 hL
  have r168_28 := rX168_28 hL
  have r168_29 := rX168_29 hL
  have r168_30 := rX168_30 hL
  have o169 := oX169 hL
  have hn5 := hok.1
  have hn := hX.1
  have k1 := c_mclassOf (I := I) (L := L) hL t (by omega)
  have k2 := c_mclassOf (I := I) (L := L) hL u (by omega)
  rw [(hX.2 t ht).2.2.2.2] at k1
  rw [(hX.2 u hu).2.2.2.2] at k2
  have h1 := hok.2.2.1 t ht
  have h2 := hok.2.2.1 u hu
  generalize ha : X.2.2.2.2.2 t = a at *
  generalize hb : X.2.2.2.2.2 u = b at *
  have post : ∀ lo hi : Int, lo = (if b < a then b else a) → hi = (if a < b then b else a) → (MT (va_up I 169 (mJr X.1 hi lo (I 169) X.1)) (jnX X t u) ∧ MFx I (va_up I 169 (mJr X.1 hi lo (I 169) X.1))) := by
    intro lo hi e1 e2
    refine ⟨⟨by rw [vup_s]; unfold mJr; rw [if_neg (by omega)]; exact hn, fun j hj => ?_⟩, fun c hc => vup_n hc, fun c hc => by rw [vup_s]; unfold mJr; rw [if_neg (by omega)]⟩
    have hj : j < X.1 := hj
    obtain ⟨q1, q2, q3, q4, q5⟩ := hX.2 j hj
    rw [vup_s]
    refine ⟨by unfold mJr; rw [if_neg (by omega)]; exact q1, by unfold mJr; rw [if_neg (by omega)]; exact q2, by unfold mJr; rw [if_neg (by omega)]; exact q3, by unfold mJr; rw [if_neg (by omega)]; exact q4, ?_⟩
    show _ = tmJn X.1 X.2.2.2.2.2 (X.2.2.2.2.2 t) (X.2.2.2.2.2 u) j
    unfold mJr tmJn
    rw [ha, hb, ← e1, ← e2, q5]
    by_cases z : X.2.2.2.2.2 j = hi
    · rw [if_pos ⟨by omega, by omega, z⟩, if_pos ⟨hj, z⟩]
    · rw [if_neg (fun k => z k.2.2), if_neg (fun k => z k.2)]
  have tail : ∀ lo hi : Int, lo = (if b < a then b else a) → hi = (if a < b then b else a) → tmW kX12_joins 2 0 0 104 [some (tR 168), some (tI t), some (tI u), some (tI a), some (tI b), some (tI lo), some (tI hi), some (tI X.1)] [] (S, va_up I 169 (mJr X.1 hi lo (I 169) X.1), L) (fun r h' => r = some (tI (if a = b then 0 else 1)) ∧ ∃ I', h' = (S, I', L) ∧ MT I' (jnX X t u) ∧ MFx I I') := by
    intro lo hi e1 e2
    obtain ⟨p1, p2⟩ := post lo hi e1 e2
    by_cases z : a = b
    · rw [if_pos z]
      refine wa_iload_n dX12_joins_104 rfl ?_
      refine wa_iload dX12_joins_105 rfl ?_
      refine wa_icmp_eq 114 dX12_joins_107 (by decide) (by exact ⟨by omega, by omega⟩) (by exact ⟨by omega, by omega⟩) (fun c_107 => ?_) (fun c_107 => ?_)
      · refine wa_iconst dX12_joins_114 ?_
        refine wa_zreturn dX12_joins_115 rfl (by first | exact Or.inl rfl | exact Or.inr rfl) ?_
        exact ⟨rfl, _, rfl, p1, p2⟩
      · exact absurd z c_107
    · rw [if_neg z]
      refine wa_iload_n dX12_joins_104 rfl ?_
      refine wa_iload dX12_joins_105 rfl ?_
      refine wa_icmp_eq 114 dX12_joins_107 (by decide) (by exact ⟨by omega, by omega⟩) (by exact ⟨by omega, by omega⟩) (fun c_107 => ?_) (fun c_107 => ?_)
      · exact absurd c_107 z
      · refine wa_iconst dX12_joins_110 ?_
        refine wa_goto 115 dX12_joins_111 (by decide) ?_
        refine wa_zreturn dX12_joins_115 rfl (by first | exact Or.inl rfl | exact Or.inr rfl) ?_
        exact ⟨rfl, _, rfl, p1, p2⟩
  have go : ∀ lo hi : Int, lo = (if b < a then b else a) → hi = (if a < b then b else a) → inR lo → inR hi → tmW kX12_joins 2 0 0 41 [some (tR 168), some (tI t), some (tI u), some (tI a), some (tI b), some (tI lo), some (tI hi), none] [] (S, I, L) (fun r h' => r = some (tI (if a = b then 0 else 1)) ∧ ∃ I', h' = (S, I', L) ∧ MT I' (jnX X t u) ∧ MFx I I') := by
    intro lo hi e1 e2 r1 r2
    have lp := mjoins_loop (I := I) (L := L) hL hn hn5 (t := t) (u := u) (a := a) (b := b) r1 r2 _ (tail lo hi e1 e2) X.1 0 (by omega)
    rw [mJr_0, vup_self] at lp
    refine wa_iconst dX12_joins_41 ?_
    refine wa_istore dX12_joins_42 (by decide) ?_
    exact lp
  by_cases c : a < b
  · have g := go a b (by rw [if_neg (by omega)]) (by rw [if_pos c]) ⟨by omega, by omega⟩ ⟨by omega, by omega⟩
    refine wa_aload_n dX12_joins_0 rfl ?_
    refine wa_iload_n dX12_joins_1 rfl ?_
    refine wa_callVf (ci := 12) dX12_joins_2 KX12_classOf LX12_95 ⟨_, _, rfl, by decide⟩ o168 (k1) (by decide) rfl rfl (Nat.le_of_ble_eq_true rfl) rfl rfl ?_
    refine wa_istore_n dX12_joins_5 (by decide) ?_
    refine wa_aload_n dX12_joins_6 rfl ?_
    refine wa_iload_n dX12_joins_7 rfl ?_
    refine wa_callVf (ci := 12) dX12_joins_8 KX12_classOf LX12_95 ⟨_, _, rfl, by decide⟩ o168 (k2) (by decide) rfl rfl (Nat.le_of_ble_eq_true rfl) rfl rfl ?_
    refine wa_istore dX12_joins_11 (by decide) ?_
    refine wa_iload_n dX12_joins_13 rfl ?_
    refine wa_iload dX12_joins_14 rfl ?_
    refine wa_icmp_ge 23 dX12_joins_16 (by decide) (by exact ⟨by omega, by omega⟩) (by exact ⟨by omega, by omega⟩) (fun c_16 => ?_) (fun c_16 => ?_)
    · omega
    · refine wa_iload_n dX12_joins_19 rfl ?_
      refine wa_goto 25 dX12_joins_20 (by decide) ?_
      refine wa_istore dX12_joins_25 (by decide) ?_
      refine wa_iload_n dX12_joins_27 rfl ?_
      refine wa_iload dX12_joins_28 rfl ?_
      refine wa_icmp_ge 38 dX12_joins_30 (by decide) (by exact ⟨by omega, by omega⟩) (by exact ⟨by omega, by omega⟩) (fun c_30 => ?_) (fun c_30 => ?_)
      · omega
      · refine wa_iload dX12_joins_33 rfl ?_
        refine wa_goto 39 dX12_joins_35 (by decide) ?_
        refine wa_istore dX12_joins_39 (by decide) ?_
        exact g
  · have g := go b a (by split; rfl; omega) (by rw [if_neg c]) ⟨by omega, by omega⟩ ⟨by omega, by omega⟩
    refine wa_aload_n dX12_joins_0 rfl ?_
    refine wa_iload_n dX12_joins_1 rfl ?_
    refine wa_callVf (ci := 12) dX12_joins_2 KX12_classOf LX12_95 ⟨_, _, rfl, by decide⟩ o168 (k1) (by decide) rfl rfl (Nat.le_of_ble_eq_true rfl) rfl rfl ?_
    refine wa_istore_n dX12_joins_5 (by decide) ?_
    refine wa_aload_n dX12_joins_6 rfl ?_
    refine wa_iload_n dX12_joins_7 rfl ?_
    refine wa_callVf (ci := 12) dX12_joins_8 KX12_classOf LX12_95 ⟨_, _, rfl, by decide⟩ o168 (k2) (by decide) rfl rfl (Nat.le_of_ble_eq_true rfl) rfl rfl ?_
    refine wa_istore dX12_joins_11 (by decide) ?_
    refine wa_iload_n dX12_joins_13 rfl ?_
    refine wa_iload dX12_joins_14 rfl ?_
    refine wa_icmp_ge 23 dX12_joins_16 (by decide) (by exact ⟨by omega, by omega⟩) (by exact ⟨by omega, by omega⟩) (fun c_16 => ?_) (fun c_16 => ?_)
    · refine wa_iload dX12_joins_23 rfl ?_
      refine wa_istore dX12_joins_25 (by decide) ?_
      refine wa_iload_n dX12_joins_27 rfl ?_
      refine wa_iload dX12_joins_28 rfl ?_
      refine wa_icmp_ge 38 dX12_joins_30 (by decide) (by exact ⟨by omega, by omega⟩) (by exact ⟨by omega, by omega⟩) (fun c_30 => ?_) (fun c_30 => ?_)
      · refine wa_iload_n dX12_joins_38 rfl ?_
        refine wa_istore dX12_joins_39 (by decide) ?_
        exact g
      · omega
    · omega
end S95
