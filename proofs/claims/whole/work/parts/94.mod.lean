/-! ===== 94: the reference: in, refuses, isTerm, isRule, arity, classOf, termOf, comes, classesOf, joins, isPart ===== -/
/-- TERMS of the reference's state (row 169) -/
def MT (I : Nat → Nat → Int) (X : TS) : Prop := I 169 0 = (X.1 : Int) ∧ ∀ t, t < X.1 → I 169 (2 + t) = X.2.1 t ∧ I 169 (52 + t) = X.2.2.1 t ∧ I 169 (102 + t) = X.2.2.2.1 t ∧ I 169 (152 + t) = X.2.2.2.2.1 t ∧ I 169 (202 + t) = X.2.2.2.2.2 t
/-- only TERMS of row 169 have changed -/
def MFx (I I' : Nat → Nat → Int) : Prop := (∀ a, a ≠ 169 → I' a = I a) ∧ ∀ k, (k = 1 ∨ 252 ≤ k) → I' 169 k = I 169 k
theorem MFx.rfl' {I : Nat → Nat → Int} : MFx I I := ⟨fun _ _ => rfl, fun _ _ => rfl⟩
theorem MFx.trans' {I J K : Nat → Nat → Int} (h : MFx I J) (g : MFx J K) : MFx I K := ⟨fun a ha => (g.1 a ha).trans (h.1 a ha), fun k hk => (g.2 k hk).trans (h.2 k hk)⟩
theorem MT.cg {I : Nat → Nat → Int} {X Y : TS} (h : MT I X) (e : TsEq X Y) : MT I Y := ⟨by rw [e.1]; exact h.1, fun t ht => by
  rw [e.1] at ht
  obtain ⟨a, b, c, d, f⟩ := h.2 t ht
  obtain ⟨a', b', c', d', f'⟩ := e.2 t ht
  exact ⟨a.trans a'.symm, b.trans b'.symm, c.trans c'.symm, d.trans d'.symm, f.trans f'.symm⟩⟩
theorem MT.row {I J : Nat → Nat → Int} {X : TS} (h : MT I X) (e : J 169 = I 169) : MT J X := by unfold MT; rw [e]; exact h
def arX (s : Int) : Int := if s < 4 ∨ 6 < s then 0 else if s < 6 then 1 else 2
section S94
variable {S : tmS} {I : Nat → Nat → Int} {L : Nat → Nat → Int64}
theorem c_min {h : tmH} (v lo hi : Int) (hv : inR v) (hl : inR lo) (hh : inR hi) : tmC yX12_in kX12_in 1 0 0 [tI v, tI lo, tI hi] h (tmF (some (tI (if lo ≤ v ∧ v ≤ hi then 1 else 0))) h) := by
  refine tmC.mk (lv := [some (tI v), some (tI lo), some (tI hi)]) 0 ⟨rfl, by decide +kernel, by decide⟩ rfl rfl ?_
  by_cases c1 : lo ≤ v
  · by_cases c2 : v ≤ hi
    · rw [if_pos ⟨c1, c2⟩]
      refine wa_iload_n dX12_in_0 rfl ?_
      refine wa_iload_n dX12_in_1 rfl ?_
      refine wa_icmp_lt 14 dX12_in_2 (by decide) (by first | exact hv | exact hl | exact hh) (by first | exact hv | exact hl | exact hh) (fun c_2 => ?_) (fun c_2 => ?_)
      · omega
      · refine wa_iload_n dX12_in_5 rfl ?_
        refine wa_iload_n dX12_in_6 rfl ?_
        refine wa_icmp_gt 14 dX12_in_7 (by decide) (by first | exact hv | exact hl | exact hh) (by first | exact hv | exact hl | exact hh) (fun c_7 => ?_) (fun c_7 => ?_)
        · omega
        · refine wa_iconst dX12_in_10 ?_
          refine wa_goto 15 dX12_in_11 (by decide) ?_
          refine wa_zreturn dX12_in_15 rfl (by first | exact Or.inl rfl | exact Or.inr rfl) ?_
          exact ⟨rfl, rfl⟩
    · rw [if_neg (fun z => c2 z.2)]
      refine wa_iload_n dX12_in_0 rfl ?_
      refine wa_iload_n dX12_in_1 rfl ?_
      refine wa_icmp_lt 14 dX12_in_2 (by decide) (by first | exact hv | exact hl | exact hh) (by first | exact hv | exact hl | exact hh) (fun c_2 => ?_) (fun c_2 => ?_)
      · omega
      · refine wa_iload_n dX12_in_5 rfl ?_
        refine wa_iload_n dX12_in_6 rfl ?_
        refine wa_icmp_gt 14 dX12_in_7 (by decide) (by first | exact hv | exact hl | exact hh) (by first | exact hv | exact hl | exact hh) (fun c_7 => ?_) (fun c_7 => ?_)
        · refine wa_iconst dX12_in_14 ?_
          refine wa_zreturn dX12_in_15 rfl (by first | exact Or.inl rfl | exact Or.inr rfl) ?_
          exact ⟨rfl, rfl⟩
        · omega
  · rw [if_neg (fun z => c1 z.1)]
    refine wa_iload_n dX12_in_0 rfl ?_
    refine wa_iload_n dX12_in_1 rfl ?_
    refine wa_icmp_lt 14 dX12_in_2 (by decide) (by first | exact hv | exact hl | exact hh) (by first | exact hv | exact hl | exact hh) (fun c_2 => ?_) (fun c_2 => ?_)
    · refine wa_iconst dX12_in_14 ?_
      refine wa_zreturn dX12_in_15 rfl (by first | exact Or.inl rfl | exact Or.inr rfl) ?_
      exact ⟨rfl, rfl⟩
    · omega
theorem c_mrefuses (hL : LX S) {j : Nat} (hj : j < 3) (h0 : 0 ≤ I 175 j ∧ I 175 j ≤ 100000) : tmC yX12_refuses kX12_refuses 1 0 0 [tR 168, tI (-2 - (j : Int))] (S, I, L) (tmF (some (tI (-2 - (j : Int)))) (S, va_up I 175 (va_up (I 175) j (I 175 j + 1)), L)) := by
  refine tmC.mk (lv := [some (tR 168), some (tI (-2 - (j : Int)))]) 0 ⟨rfl, by decide +kernel, by decide⟩ rfl rfl ?_
  have o168 := oX168 hL
  have r168_0 := rX168_0 hL
  have r168_1 := rX168_1 hL
  have r168_3 := rX168_3 hL
  have r168_4 := rX168_4 hL
  have r168_5 := rX168_5 hL
  have r168_6 := rX168_6 hL
  have r168_7 := rX168_7 hL
  have r168_8 := rX168_8 hL
  have r168_11 := rX168_11 hL
  have r168_13 := rX168_13 hL
  have r168_17 := rX168_17 hL
  have r168_18 := rX168_18 hL
  have r168_19 := rX168_19 hL
  have r168_21 := rX168_21 hL
  have r168_22 := rX168_22 hL
  have r168_23 := rX168_23 hL
  have r168_24 := rX168_24 hL
  have r168_25 := rX168_25 hL
  have r168_26 := rX168_26 hL
  have r168_27 := rX168_27 hL
  have r168_28 := rX168_28 hL
  have r168_29 := rX168_29 hL
  have r168_30 := rX168_30 hL
  have o175 := oX175 hL
  refine wa_aload_n dX12_refuses_0 rfl ?_
  refine wt_getR dX12_refuses_1 FX12_28 (by assumption) (by assumption) ?_
  refine wa_bipush dX12_refuses_4 rfl ?_
  refine wa_iload_n dX12_refuses_6 rfl ?_
  refine wa_isub dX12_refuses_7 ?_
  refine wa_dup2 dX12_refuses_8 rfl rfl ?_
  refine wt_iald j dX12_refuses_9 (by assumption) (by omega) (by omega) ?_
  refine wa_iconst dX12_refuses_10 ?_
  refine wa_iadd dX12_refuses_11 ?_
  refine wt_iast j dX12_refuses_12 (by assumption) (by omega) (by omega) (by exact ⟨by omega, by omega⟩) ?_
  refine wa_iload_n dX12_refuses_13 rfl ?_
  refine wa_ireturn dX12_refuses_14 rfl ?_
  exact ⟨rfl, rfl⟩
theorem c_misTerm (hL : LX S) {n : Nat} (hn : I 169 0 = (n : Int)) (hn5 : n ≤ 50) (t : Int) (ht : inR t) : tmC yX12_isTerm kX12_isTerm 2 0 0 [tR 168, tI t] (S, I, L) (tmF (some (tI (if 0 ≤ t ∧ t < n then 1 else 0))) (S, I, L)) := by
  refine tmC.mk (lv := [some (tR 168), some (tI t)]) 0 ⟨rfl, by decide +kernel, by decide⟩ rfl rfl ?_
  have o168 := oX168 hL
  have r168_0 := rX168_0 hL
  have r168_1 := rX168_1 hL
  have r168_3 := rX168_3 hL
  have r168_4 := rX168_4 hL
  have r168_5 := rX168_5 hL
  have r168_6 := rX168_6 hL
  have r168_7 := rX168_7 hL
  have r168_8 := rX168_8 hL
  have r168_11 := rX168_11 hL
  have r168_13 := rX168_13 hL
  have r168_17 := rX168_17 hL
  have r168_18 := rX168_18 hL
  have r168_19 := rX168_19 hL
  have r168_21 := rX168_21 hL
  have r168_22 := rX168_22 hL
  have r168_23 := rX168_23 hL
  have r168_24 := rX168_24 hL
  have r168_25 := rX168_25 hL
  have r168_26 := rX168_26 hL
  have r168_27 := rX168_27 hL
  have r168_28 := rX168_28 hL
  have r168_29 := rX168_29 hL
  have r168_30 := rX168_30 hL
  have o169 := oX169 hL
  have hi := c_min (h := (S, I, L)) t 0 ((n : Int) - 1) ht ⟨by omega, by omega⟩ ⟨by omega, by omega⟩
  have e : (if 0 ≤ t ∧ t ≤ (n : Int) - 1 then (1 : Int) else 0) = if 0 ≤ t ∧ t < n then 1 else 0 := by
    by_cases c : 0 ≤ t ∧ t < n
    · rw [if_pos c, if_pos (by omega)]
    · rw [if_neg c, if_neg (by omega)]
  rw [e] at hi
  refine wa_iload_n dX12_isTerm_0 rfl ?_
  refine wa_iconst dX12_isTerm_1 ?_
  refine wa_aload_n dX12_isTerm_2 rfl ?_
  refine wt_getR dX12_isTerm_3 FX12_7 (by assumption) (by assumption) ?_
  refine wa_iconst dX12_isTerm_6 ?_
  refine wt_iald 0 dX12_isTerm_7 (by assumption) rfl (by omega) ?_
  try rw [hn]
  refine wa_iconst dX12_isTerm_8 ?_
  refine wa_isub dX12_isTerm_9 ?_
  refine wa_callSf dX12_isTerm_10 KX12_in LX12_79 (hi) (by decide) rfl rfl (Nat.le_of_ble_eq_true rfl) rfl rfl ?_
  refine wa_zreturn dX12_isTerm_13 rfl (by split; exact Or.inr rfl; exact Or.inl rfl) ?_
  exact ⟨rfl, rfl⟩
theorem c_misRule (hL : LX S) {n : Nat} (hn : I 169 1 = (n : Int)) (hn5 : n ≤ 6) (t : Int) (ht : inR t) : tmC yX12_isRule kX12_isRule 2 0 0 [tR 168, tI t] (S, I, L) (tmF (some (tI (if 0 ≤ t ∧ t < n then 1 else 0))) (S, I, L)) := by
  refine tmC.mk (lv := [some (tR 168), some (tI t)]) 0 ⟨rfl, by decide +kernel, by decide⟩ rfl rfl ?_
  have o168 := oX168 hL
  have r168_0 := rX168_0 hL
  have r168_1 := rX168_1 hL
  have r168_3 := rX168_3 hL
  have r168_4 := rX168_4 hL
  have r168_5 := rX168_5 hL
  have r168_6 := rX168_6 hL
  have r168_7 := rX168_7 hL
  have r168_8 := rX168_8 hL
  have r168_11 := rX168_11 hL
  have r168_13 := rX168_13 hL
  have r168_17 := rX168_17 hL
  have r168_18 := rX168_18 hL
  have r168_19 := rX168_19 hL
  have r168_21 := rX168_21 hL
  have r168_22 := rX168_22 hL
  have r168_23 := rX168_23 hL
  have r168_24 := rX168_24 hL
  have r168_25 := rX168_25 hL
  have r168_26 := rX168_26 hL
  have r168_27 := rX168_27 hL
  have r168_28 := rX168_28 hL
  have r168_29 := rX168_29 hL
  have r168_30 := rX168_30 hL
  have o169 := oX169 hL
  have hi := c_min (h := (S, I, L)) t 0 ((n : Int) - 1) ht ⟨by omega, by omega⟩ ⟨by omega, by omega⟩
  have e : (if 0 ≤ t ∧ t ≤ (n : Int) - 1 then (1 : Int) else 0) = if 0 ≤ t ∧ t < n then 1 else 0 := by
    by_cases c : 0 ≤ t ∧ t < n
    · rw [if_pos c, if_pos (by omega)]
    · rw [if_neg c, if_neg (by omega)]
  rw [e] at hi
  refine wa_iload_n dX12_isRule_0 rfl ?_
  refine wa_iconst dX12_isRule_1 ?_
  refine wa_aload_n dX12_isRule_2 rfl ?_
  refine wt_getR dX12_isRule_3 FX12_7 (by assumption) (by assumption) ?_
  refine wa_iconst dX12_isRule_6 ?_
  refine wt_iald 1 dX12_isRule_7 (by assumption) rfl (by omega) ?_
  try rw [hn]
  refine wa_iconst dX12_isRule_8 ?_
  refine wa_isub dX12_isRule_9 ?_
  refine wa_callSf dX12_isRule_10 KX12_in LX12_79 (hi) (by decide) rfl rfl (Nat.le_of_ble_eq_true rfl) rfl rfl ?_
  refine wa_zreturn dX12_isRule_13 rfl (by split; exact Or.inr rfl; exact Or.inl rfl) ?_
  exact ⟨rfl, rfl⟩
theorem c_marity {h : tmH} (s : Int) (hs : inR s) : tmC yX12_arity kX12_arity 1 0 0 [tI s] h (tmF (some (tI (arX s))) h) := by
  refine tmC.mk (lv := [some (tI s)]) 0 ⟨rfl, by decide +kernel, by decide⟩ rfl rfl ?_
  by_cases c1 : s < 4
  · have e : arX s = 0 := by unfold arX; rw [if_pos (Or.inl c1)]
    rw [e]
    refine wa_iload_n dX12_arity_0 rfl ?_
    refine wa_iconst dX12_arity_1 ?_
    refine wa_icmp_lt 11 dX12_arity_2 (by decide) (by first | exact hs | exact ⟨by omega, by omega⟩) (by first | exact hs | exact ⟨by omega, by omega⟩) (fun c_2 => ?_) (fun c_2 => ?_)
    · refine wa_iconst dX12_arity_11 ?_
      refine wa_goto 26 dX12_arity_12 (by decide) ?_
      refine wa_ireturn dX12_arity_26 rfl ?_
      exact ⟨rfl, rfl⟩
    · omega
  · by_cases c2 : 6 < s
    · have e : arX s = 0 := by unfold arX; rw [if_pos (Or.inr c2)]
      rw [e]
      refine wa_iload_n dX12_arity_0 rfl ?_
      refine wa_iconst dX12_arity_1 ?_
      refine wa_icmp_lt 11 dX12_arity_2 (by decide) (by first | exact hs | exact ⟨by omega, by omega⟩) (by first | exact hs | exact ⟨by omega, by omega⟩) (fun c_2 => ?_) (fun c_2 => ?_)
      · omega
      · refine wa_iload_n dX12_arity_5 rfl ?_
        refine wa_bipush dX12_arity_6 rfl ?_
        refine wa_icmp_le 15 dX12_arity_8 (by decide) (by first | exact hs | exact ⟨by omega, by omega⟩) (by first | exact hs | exact ⟨by omega, by omega⟩) (fun c_8 => ?_) (fun c_8 => ?_)
        · omega
        · refine wa_iconst dX12_arity_11 ?_
          refine wa_goto 26 dX12_arity_12 (by decide) ?_
          refine wa_ireturn dX12_arity_26 rfl ?_
          exact ⟨rfl, rfl⟩
    · by_cases c3 : s < 6
      · have e : arX s = 1 := by unfold arX; rw [if_neg (by omega), if_pos c3]
        rw [e]
        refine wa_iload_n dX12_arity_0 rfl ?_
        refine wa_iconst dX12_arity_1 ?_
        refine wa_icmp_lt 11 dX12_arity_2 (by decide) (by first | exact hs | exact ⟨by omega, by omega⟩) (by first | exact hs | exact ⟨by omega, by omega⟩) (fun c_2 => ?_) (fun c_2 => ?_)
        · omega
        · refine wa_iload_n dX12_arity_5 rfl ?_
          refine wa_bipush dX12_arity_6 rfl ?_
          refine wa_icmp_le 15 dX12_arity_8 (by decide) (by first | exact hs | exact ⟨by omega, by omega⟩) (by first | exact hs | exact ⟨by omega, by omega⟩) (fun c_8 => ?_) (fun c_8 => ?_)
          · refine wa_iload_n dX12_arity_15 rfl ?_
            refine wa_bipush dX12_arity_16 rfl ?_
            refine wa_icmp_ge 25 dX12_arity_18 (by decide) (by first | exact hs | exact ⟨by omega, by omega⟩) (by first | exact hs | exact ⟨by omega, by omega⟩) (fun c_18 => ?_) (fun c_18 => ?_)
            · omega
            · refine wa_iconst dX12_arity_21 ?_
              refine wa_goto 26 dX12_arity_22 (by decide) ?_
              refine wa_ireturn dX12_arity_26 rfl ?_
              exact ⟨rfl, rfl⟩
          · omega
      · have e : arX s = 2 := by unfold arX; rw [if_neg (by omega), if_neg c3]
        rw [e]
        refine wa_iload_n dX12_arity_0 rfl ?_
        refine wa_iconst dX12_arity_1 ?_
        refine wa_icmp_lt 11 dX12_arity_2 (by decide) (by first | exact hs | exact ⟨by omega, by omega⟩) (by first | exact hs | exact ⟨by omega, by omega⟩) (fun c_2 => ?_) (fun c_2 => ?_)
        · omega
        · refine wa_iload_n dX12_arity_5 rfl ?_
          refine wa_bipush dX12_arity_6 rfl ?_
          refine wa_icmp_le 15 dX12_arity_8 (by decide) (by first | exact hs | exact ⟨by omega, by omega⟩) (by first | exact hs | exact ⟨by omega, by omega⟩) (fun c_8 => ?_) (fun c_8 => ?_)
          · refine wa_iload_n dX12_arity_15 rfl ?_
            refine wa_bipush dX12_arity_16 rfl ?_
            refine wa_icmp_ge 25 dX12_arity_18 (by decide) (by first | exact hs | exact ⟨by omega, by omega⟩) (by first | exact hs | exact ⟨by omega, by omega⟩) (fun c_18 => ?_) (fun c_18 => ?_)
            · refine wa_iconst dX12_arity_25 ?_
              refine wa_ireturn dX12_arity_26 rfl ?_
              exact ⟨rfl, rfl⟩
            · omega
          · omega
theorem c_mclassOf (hL : LX S) (t : Nat) (ht : t < 700) : tmC yX12_classOf kX12_classOf 1 0 0 [tR 168, tI t] (S, I, L) (tmF (some (tI (I 169 (202 + t)))) (S, I, L)) := by
  refine tmC.mk (lv := [some (tR 168), some (tI t)]) 0 ⟨rfl, by decide +kernel, by decide⟩ rfl rfl ?_
  have o168 := oX168 hL
  have r168_0 := rX168_0 hL
  have r168_1 := rX168_1 hL
  have r168_3 := rX168_3 hL
  have r168_4 := rX168_4 hL
  have r168_5 := rX168_5 hL
  have r168_6 := rX168_6 hL
  have r168_7 := rX168_7 hL
  have r168_8 := rX168_8 hL
  have r168_11 := rX168_11 hL
  have r168_13 := rX168_13 hL
  have r168_17 := rX168_17 hL
  have r168_18 := rX168_18 hL
  have r168_19 := rX168_19 hL
  have r168_21 := rX168_21 hL
  have r168_22 := rX168_22 hL
  have r168_23 := rX168_23 hL
  have r168_24 := rX168_24 hL
  have r168_25 := rX168_25 hL
  have r168_26 := rX168_26 hL
  have r168_27 := rX168_27 hL
  have r168_28 := rX168_28 hL
  have r168_29 := rX168_29 hL
  have r168_30 := rX168_30 hL
  have o169 := oX169 hL
  refine wa_aload_n dX12_classOf_0 rfl ?_
  refine wt_getR dX12_classOf_1 FX12_7 (by assumption) (by assumption) ?_
  refine wa_sipush dX12_classOf_4 rfl ?_
  refine wa_iload_n dX12_classOf_7 rfl ?_
  refine wa_iadd dX12_classOf_8 ?_
  refine wt_iald (202 + t) dX12_classOf_9 (by assumption) (by omega) (by omega) ?_
  refine wa_ireturn dX12_classOf_10 rfl ?_
  exact ⟨rfl, rfl⟩
set_option maxRecDepth 20000 in
theorem mtermOf_loop (hL : LX S) {n : Nat} (hn : I 169 0 = (n : Int)) (hn5 : n ≤ 50) (s p q : Int) (hs : inR s) (hp : inR p) (hq : inR q) : ∀ (k t : Nat), t + k = n →
    tmW kX12_termOf 1 0 0 3 [some (tR 168), some (tI s), some (tI p), some (tI q), some (tI t)] [] (S, I, L) (tmF (some (tI (tmScan (fun t => I 169 (2 + t) = s ∧ I 169 (52 + t) = p ∧ I 169 (102 + t) = q) k t))) (S, I, L)) := by
  intro k
  have o168 := oX168 hL
  have r168_0 := rX168_0 hL
  have r168_1 := rX168_1 hL
  have r168_3 := rX168_3 hL
  have r168_4 := rX168_4 hL
  have r168_5 := rX168_5 hL
  have r168_6 := rX168_6 hL
  have r168_7 := rX168_7 hL
  have r168_8 := rX168_8 hL
  have r168_11 := rX168_11 hL
  have r168_13 := rX168_13 hL
  have r168_17 := rX168_17 hL
  have r168_18 := rX168_18 hL
  have r168_19 := rX168_19 hL
  have r168_21 := rX168_21 hL
  have r168_22 := rX168_22 hL
  have r168_23 := rX168_23 hL
  have r168_24 := rX168_24 hL
  have r168_25 := rX168_25 hL
  have r168_26 := rX168_26 hL
  have r168_27 := rX168_27 hL
  have r168_28 := rX168_28 hL
  have r168_29 := rX168_29 hL
  have r168_30 := rX168_30 hL
  have o169 := oX169 hL
  induction k with
  | zero =>
    intro t ht
    refine wa_iload dX12_termOf_3 rfl ?_
    refine wa_aload_n dX12_termOf_5 rfl ?_
    refine wt_getR dX12_termOf_6 FX12_7 (by assumption) (by assumption) ?_
    refine wa_iconst dX12_termOf_9 ?_
    refine wt_iald 0 dX12_termOf_10 (by assumption) rfl (by omega) ?_
    try first | rw [hn] | skip
    refine wa_icmp_ge 64 dX12_termOf_11 (by decide) (by exact ⟨by omega, by omega⟩) (by exact ⟨by omega, by omega⟩) (fun c_11 => ?_) (fun c_11 => ?_)
    · refine wa_iconst dX12_termOf_64 ?_
      refine wa_ireturn dX12_termOf_65 rfl ?_
      exact ⟨rfl, rfl⟩
    · omega
  | succ k ih =>
    intro t ht
    simp only [tmScan]
    refine wt_ir (fun hI => ?_)
    have nx : ¬ (I 169 (2 + t) = s ∧ I 169 (52 + t) = p ∧ I 169 (102 + t) = q) → tmW kX12_termOf 1 0 0 58 [some (tR 168), some (tI s), some (tI p), some (tI q), some (tI t)] [] (S, I, L) (tmF (some (tI (if I 169 (2 + t) = s ∧ I 169 (52 + t) = p ∧ I 169 (102 + t) = q then (t : Int) else tmScan (fun t => I 169 (2 + t) = s ∧ I 169 (52 + t) = p ∧ I 169 (102 + t) = q) k (t + 1)))) (S, I, L)) := by
      intro hc
      rw [if_neg hc]
      have := ih (t + 1) (by omega)
      refine wa_iinc dX12_termOf_58 rfl (by decide) ?_
      refine wa_goto 3 dX12_termOf_61 (by decide) ?_
      exact this
    refine wa_iload dX12_termOf_3 rfl ?_
    refine wa_aload_n dX12_termOf_5 rfl ?_
    refine wt_getR dX12_termOf_6 FX12_7 (by assumption) (by assumption) ?_
    refine wa_iconst dX12_termOf_9 ?_
    refine wt_iald 0 dX12_termOf_10 (by assumption) rfl (by omega) ?_
    try first | rw [hn] | skip
    refine wa_icmp_ge 64 dX12_termOf_11 (by decide) (by first | exact hI _ _ | exact hs | exact hp | exact hq | exact ⟨by omega, by omega⟩) (by first | exact hI _ _ | exact hs | exact hp | exact hq | exact ⟨by omega, by omega⟩) (fun c_11 => ?_) (fun c_11 => ?_)
    · omega
    · refine wa_aload_n dX12_termOf_14 rfl ?_
      refine wt_getR dX12_termOf_15 FX12_7 (by assumption) (by assumption) ?_
      refine wa_iconst dX12_termOf_18 ?_
      refine wa_iload dX12_termOf_19 rfl ?_
      refine wa_iadd dX12_termOf_21 ?_
      refine wt_iald (2 + t) dX12_termOf_22 (by assumption) (by omega) (by omega) ?_
      try first | rw [hn] | skip
      refine wa_iload_n dX12_termOf_23 rfl ?_
      refine wa_icmp_ne 58 dX12_termOf_24 (by decide) (by first | exact hI _ _ | exact hs | exact hp | exact hq | exact ⟨by omega, by omega⟩) (by first | exact hI _ _ | exact hs | exact hp | exact hq | exact ⟨by omega, by omega⟩) (fun c_24 => ?_) (fun c_24 => ?_)
      · exact nx (fun z => c_24 z.1)
      · refine wa_aload_n dX12_termOf_27 rfl ?_
        refine wt_getR dX12_termOf_28 FX12_7 (by assumption) (by assumption) ?_
        refine wa_bipush dX12_termOf_31 rfl ?_
        refine wa_iload dX12_termOf_33 rfl ?_
        refine wa_iadd dX12_termOf_35 ?_
        refine wt_iald (52 + t) dX12_termOf_36 (by assumption) (by omega) (by omega) ?_
        try first | rw [hn] | skip
        refine wa_iload_n dX12_termOf_37 rfl ?_
        refine wa_icmp_ne 58 dX12_termOf_38 (by decide) (by first | exact hI _ _ | exact hs | exact hp | exact hq | exact ⟨by omega, by omega⟩) (by first | exact hI _ _ | exact hs | exact hp | exact hq | exact ⟨by omega, by omega⟩) (fun c_38 => ?_) (fun c_38 => ?_)
        · exact nx (fun z => c_38 z.2.1)
        · refine wa_aload_n dX12_termOf_41 rfl ?_
          refine wt_getR dX12_termOf_42 FX12_7 (by assumption) (by assumption) ?_
          refine wa_bipush dX12_termOf_45 rfl ?_
          refine wa_iload dX12_termOf_47 rfl ?_
          refine wa_iadd dX12_termOf_49 ?_
          refine wt_iald (102 + t) dX12_termOf_50 (by assumption) (by omega) (by omega) ?_
          try first | rw [hn] | skip
          refine wa_iload_n dX12_termOf_51 rfl ?_
          refine wa_icmp_ne 58 dX12_termOf_52 (by decide) (by first | exact hI _ _ | exact hs | exact hp | exact hq | exact ⟨by omega, by omega⟩) (by first | exact hI _ _ | exact hs | exact hp | exact hq | exact ⟨by omega, by omega⟩) (fun c_52 => ?_) (fun c_52 => ?_)
          · exact nx (fun z => c_52 z.2.2)
          · refine wa_iload dX12_termOf_55 rfl ?_
            refine wa_ireturn dX12_termOf_57 rfl ?_
            rw [if_pos ⟨c_24, c_38, c_52⟩]
            exact ⟨rfl, rfl⟩
theorem c_mtermOf (hL : LX S) {X : TS} (hX : MT I X) (hn5 : X.1 ≤ 50) (s p q : Int) (hs : inR s) (hp : inR p) (hq : inR q) : tmC yX12_termOf kX12_termOf 1 0 0 [tR 168, tI s, tI p, tI q] (S, I, L) (tmF (some (tI (tsLk X s p q))) (S, I, L)) := by
  refine tmC.mk (lv := [some (tR 168), some (tI s), some (tI p), some (tI q), none]) 1 ⟨rfl, by decide +kernel, by decide⟩ rfl rfl ?_
  have lp := mtermOf_loop (L := L) hL hX.1 hn5 s p q hs hp hq X.1 0 (by omega)
  have e : tmScan (fun t => I 169 (2 + t) = s ∧ I 169 (52 + t) = p ∧ I 169 (102 + t) = q) X.1 0 = tsLk X s p q := tmScan_cg _ _ (fun j _ hj => by
    obtain ⟨a, b, c, _⟩ := hX.2 j (by omega)
    rw [a, b, c])
  rw [e] at lp
  refine wa_iconst dX12_termOf_0 ?_
  refine wa_istore dX12_termOf_1 (by decide) ?_
  exact lp
/-- what comes leaves -/
abbrev McPost (S : tmS) (I : Nat → Nat → Int) (L : Nat → Nat → Int64) (X : TS) (res : Option (Int × TS)) : Option tmV → tmH → Prop := fun r h' => ∃ I', h' = (S, I', L) ∧ match res with
  | none => r = some (tI 0) ∧ I' = va_up I 168 (va_up (I 168) 20 1)
  | some o => r = some (tI o.1) ∧ MT I' o.2 ∧ MFx I I'
set_option maxRecDepth 20000 in
theorem c_mcomes (hL : LX S) {X : TS} (hX : MT I X) (hn5 : X.1 ≤ 50) (s p q g : Int) (hs : inR s) (hp : inR p) (hq : inR q) (hg : inR g) : tmC yX12_comes kX12_comes 2 0 0 [tR 168, tI s, tI p, tI q, tI g] (S, I, L) (McPost S I L X (tsCome X s p q g)) := by
  refine tmC.mk (lv := [some (tR 168), some (tI s), some (tI p), some (tI q), some (tI g), none]) 1 ⟨rfl, by decide +kernel, by decide⟩ rfl rfl ?_
  have o168 := oX168 hL
  have r168_0 := rX168_0 hL
  have r168_1 := rX168_1 hL
  have r168_3 := rX168_3 hL
  have r168_4 := rX168_4 hL
  have r168_5 := rX168_5 hL
  have r168_6 := rX168_6 hL
  have r168_7 := rX168_7 hL
  have r168_8 := rX168_8 hL
  have r168_11 := rX168_11 hL
  have r168_13 := rX168_13 hL
  have r168_17 := rX168_17 hL
  have r168_18 := rX168_18 hL
  have r168_19 := rX168_19 hL
  have r168_21 := rX168_21 hL
  have r168_22 := rX168_22 hL
  have r168_23 := rX168_23 hL
  have r168_24 := rX168_24 hL
  have r168_25 := rX168_25 hL
  have r168_26 := rX168_26 hL
  have r168_27 := rX168_27 hL
  have r168_28 := rX168_28 hL
  have r168_29 := rX168_29 hL
  have r168_30 := rX168_30 hL
  have o169 := oX169 hL
  have ht := c_mtermOf (L := L) hL hX hn5 s p q hs hp hq
  have hin := tsLk_in X s p q
  have hn := hX.1
  unfold tsCome
  by_cases c : tsLk X s p q = -1
  · rw [if_pos c]
    rw [c] at ht
    by_cases c5 : X.1 < 50
    · rw [if_pos c5]
      generalize hJ : va_up I 169 (va_up (va_up (va_up (va_up (va_up (va_up (I 169) (2 + X.1) s) (52 + X.1) p) (102 + X.1) q) (152 + X.1) g) (202 + X.1) (X.1 : Int)) 0 ((X.1 : Int) + 1)) = J
      have fin : McPost S I L X (some ((X.1 : Int), tsAdd X s p q g)) (some (tI (X.1 : Int))) (S, J, L) := by
        refine ⟨J, rfl, rfl, ⟨?_, fun t ht => ?_⟩, ⟨fun a ha => by rw [← hJ]; exact vup_n ha, fun k hk => ?_⟩⟩
        · rw [← hJ, vup_s, vup_s]; simp [tsAdd]
        · have ht : t < X.1 + 1 := ht
          rw [← hJ, vup_s]
          simp only [tsAdd]
          by_cases z : t = X.1
          · subst z
            simp (disch := omega) only [vup_s, vup_n, and_self]
          · have := hX.2 t (by omega)
            simp (disch := omega) only [vup_n]
            exact this
        · rw [← hJ, vup_s]
          simp (disch := omega) only [vup_n]
      refine wa_aload_n dX12_comes_0 rfl ?_
      refine wa_iload_n dX12_comes_1 rfl ?_
      refine wa_iload_n dX12_comes_2 rfl ?_
      refine wa_iload_n dX12_comes_3 rfl ?_
      refine wa_callVf (ci := 12) dX12_comes_4 KX12_termOf LX12_87 ⟨_, _, rfl, by decide⟩ o168 (ht) (by decide) rfl rfl (Nat.le_of_ble_eq_true rfl) rfl rfl ?_
      refine wa_istore dX12_comes_7 (by decide) ?_
      refine wa_iload dX12_comes_9 rfl ?_
      refine wa_if_lt 17 dX12_comes_11 (by decide) (by first | exact hs | exact hp | exact hq | exact hg | exact ⟨by omega, by omega⟩) (fun c_11 => ?_) (fun c_11 => ?_)
      · refine wa_aload_n dX12_comes_17 rfl ?_
        refine wt_getR dX12_comes_18 FX12_7 (by assumption) (by assumption) ?_
        refine wa_iconst dX12_comes_21 ?_
        refine wt_iald 0 dX12_comes_22 (by assumption) rfl (by omega) ?_
        try first | rw [hn] | skip
        refine wa_bipush dX12_comes_23 rfl ?_
        refine wa_icmp_ne 35 dX12_comes_25 (by decide) (by first | exact hs | exact hp | exact hq | exact hg | exact ⟨by omega, by omega⟩) (by first | exact hs | exact hp | exact hq | exact hg | exact ⟨by omega, by omega⟩) (fun c_25 => ?_) (fun c_25 => ?_)
        · refine wa_aload_n dX12_comes_35 rfl ?_
          refine wt_getR dX12_comes_36 FX12_7 (by assumption) (by assumption) ?_
          refine wa_iconst dX12_comes_39 ?_
          refine wt_iald 0 dX12_comes_40 (by assumption) rfl (by omega) ?_
          try first | rw [hn] | skip
          refine wa_istore dX12_comes_41 (by decide) ?_
          refine wa_aload_n dX12_comes_43 rfl ?_
          refine wt_getR dX12_comes_44 FX12_7 (by assumption) (by assumption) ?_
          refine wa_iconst dX12_comes_47 ?_
          refine wa_iload dX12_comes_48 rfl ?_
          refine wa_iadd dX12_comes_50 ?_
          refine wa_iload_n dX12_comes_51 rfl ?_
          refine wt_iast (2 + X.1) dX12_comes_52 (by assumption) (by omega) (by omega) (by first | exact hs | exact hp | exact hq | exact hg | exact ⟨by omega, by omega⟩) ?_
          skip
          refine wa_aload_n dX12_comes_53 rfl ?_
          refine wt_getR dX12_comes_54 FX12_7 (by assumption) (by assumption) ?_
          refine wa_bipush dX12_comes_57 rfl ?_
          refine wa_iload dX12_comes_59 rfl ?_
          refine wa_iadd dX12_comes_61 ?_
          refine wa_iload_n dX12_comes_62 rfl ?_
          refine wt_iast (52 + X.1) dX12_comes_63 (by assumption) (by omega) (by omega) (by first | exact hs | exact hp | exact hq | exact hg | exact ⟨by omega, by omega⟩) ?_
          rw [vup_s, vup_vup]
          refine wa_aload_n dX12_comes_64 rfl ?_
          refine wt_getR dX12_comes_65 FX12_7 (by assumption) (by assumption) ?_
          refine wa_bipush dX12_comes_68 rfl ?_
          refine wa_iload dX12_comes_70 rfl ?_
          refine wa_iadd dX12_comes_72 ?_
          refine wa_iload_n dX12_comes_73 rfl ?_
          refine wt_iast (102 + X.1) dX12_comes_74 (by assumption) (by omega) (by omega) (by first | exact hs | exact hp | exact hq | exact hg | exact ⟨by omega, by omega⟩) ?_
          rw [vup_s, vup_vup]
          refine wa_aload_n dX12_comes_75 rfl ?_
          refine wt_getR dX12_comes_76 FX12_7 (by assumption) (by assumption) ?_
          refine wa_sipush dX12_comes_79 rfl ?_
          refine wa_iload dX12_comes_82 rfl ?_
          refine wa_iadd dX12_comes_84 ?_
          refine wa_iload dX12_comes_85 rfl ?_
          refine wt_iast (152 + X.1) dX12_comes_87 (by assumption) (by omega) (by omega) (by first | exact hs | exact hp | exact hq | exact hg | exact ⟨by omega, by omega⟩) ?_
          rw [vup_s, vup_vup]
          refine wa_aload_n dX12_comes_88 rfl ?_
          refine wt_getR dX12_comes_89 FX12_7 (by assumption) (by assumption) ?_
          refine wa_sipush dX12_comes_92 rfl ?_
          refine wa_iload dX12_comes_95 rfl ?_
          refine wa_iadd dX12_comes_97 ?_
          refine wa_iload dX12_comes_98 rfl ?_
          refine wt_iast (202 + X.1) dX12_comes_100 (by assumption) (by omega) (by omega) (by first | exact hs | exact hp | exact hq | exact hg | exact ⟨by omega, by omega⟩) ?_
          rw [vup_s, vup_vup]
          refine wa_aload_n dX12_comes_101 rfl ?_
          refine wt_getR dX12_comes_102 FX12_7 (by assumption) (by assumption) ?_
          refine wa_iconst dX12_comes_105 ?_
          refine wa_dup2 dX12_comes_106 rfl rfl ?_
          refine wt_iald 0 dX12_comes_107 (by assumption) rfl (by omega) ?_
          try first | rw [hn] | skip
          rw [vup_s, vup_n (by omega), vup_n (by omega), vup_n (by omega), vup_n (by omega), vup_n (by omega), hn]
          refine wa_iconst dX12_comes_108 ?_
          refine wa_iadd dX12_comes_109 ?_
          refine wt_iast 0 dX12_comes_110 (by assumption) rfl (by omega) (by first | exact hs | exact hp | exact hq | exact hg | exact ⟨by omega, by omega⟩) ?_
          rw [vup_s, vup_vup, hJ]
          refine wa_iload dX12_comes_111 rfl ?_
          refine wa_ireturn dX12_comes_113 rfl ?_
          exact fin
        · omega
      · omega
    · rw [if_neg c5]
      refine wa_aload_n dX12_comes_0 rfl ?_
      refine wa_iload_n dX12_comes_1 rfl ?_
      refine wa_iload_n dX12_comes_2 rfl ?_
      refine wa_iload_n dX12_comes_3 rfl ?_
      refine wa_callVf (ci := 12) dX12_comes_4 KX12_termOf LX12_87 ⟨_, _, rfl, by decide⟩ o168 (ht) (by decide) rfl rfl (Nat.le_of_ble_eq_true rfl) rfl rfl ?_
      refine wa_istore dX12_comes_7 (by decide) ?_
      refine wa_iload dX12_comes_9 rfl ?_
      refine wa_if_lt 17 dX12_comes_11 (by decide) (by exact ⟨by omega, by omega⟩) (fun c_11 => ?_) (fun c_11 => ?_)
      · refine wa_aload_n dX12_comes_17 rfl ?_
        refine wt_getR dX12_comes_18 FX12_7 (by assumption) (by assumption) ?_
        refine wa_iconst dX12_comes_21 ?_
        refine wt_iald 0 dX12_comes_22 (by assumption) rfl (by omega) ?_
        try first | rw [hn] | skip
        refine wa_bipush dX12_comes_23 rfl ?_
        refine wa_icmp_ne 35 dX12_comes_25 (by decide) (by exact ⟨by omega, by omega⟩) (by exact ⟨by omega, by omega⟩) (fun c_25 => ?_) (fun c_25 => ?_)
        · omega
        · refine wa_aload_n dX12_comes_28 rfl ?_
          refine wa_iconst dX12_comes_29 ?_
          refine wt_putZ dX12_comes_30 FX12_91 (WX12_20 _ _) (by assumption) (by first | exact Or.inl rfl | exact Or.inr rfl) ?_
          refine wa_iconst dX12_comes_33 ?_
          refine wa_ireturn dX12_comes_34 rfl ?_
          exact ⟨_, rfl, rfl, rfl⟩
      · omega
  · rw [if_neg c]
    refine wa_aload_n dX12_comes_0 rfl ?_
    refine wa_iload_n dX12_comes_1 rfl ?_
    refine wa_iload_n dX12_comes_2 rfl ?_
    refine wa_iload_n dX12_comes_3 rfl ?_
    refine wa_callVf (ci := 12) dX12_comes_4 KX12_termOf LX12_87 ⟨_, _, rfl, by decide⟩ o168 (ht) (by decide) rfl rfl (Nat.le_of_ble_eq_true rfl) rfl rfl ?_
    refine wa_istore dX12_comes_7 (by decide) ?_
    refine wa_iload dX12_comes_9 rfl ?_
    refine wa_if_lt 17 dX12_comes_11 (by decide) (by exact ⟨by omega, by omega⟩) (fun c_11 => ?_) (fun c_11 => ?_)
    · omega
    · refine wa_iload dX12_comes_14 rfl ?_
      refine wa_ireturn dX12_comes_16 rfl ?_
      exact ⟨I, rfl, rfl, hX, MFx.rfl'⟩
end S94
