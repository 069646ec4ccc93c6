/-! ===== 99za: the reference: byteAt, skips, is, signBy ===== -/
section S99za
variable {S : tmS} {I : Nat → Nat → Int} {L : Nat → Nat → Int64}
/-- where the reference's reading stands -/
abbrev atQ (I : Nat → Nat → Int) (p : Nat) : Nat → Nat → Int := va_up I 168 (va_up (I 168) 10 (p : Int))
set_option maxRecDepth 20000 in
theorem atQ_self {p : Nat} (h : I 168 10 = (p : Int)) : atQ I p = I := by unfold atQ; rw [← h, vup_self, vup_self]
set_option maxRecDepth 20000 in
theorem atQ_10 {p : Nat} : atQ I p 168 10 = (p : Int) := by unfold atQ; rw [vup_s, vup_s]
set_option maxRecDepth 20000 in
theorem atQ_k {p k : Nat} (h : k ≠ 10) : atQ I p 168 k = I 168 k := by unfold atQ; rw [vup_s, vup_n h]
set_option maxRecDepth 20000 in
theorem atQ_n {p a : Nat} (h : a ≠ 168) : atQ I p a = I a := vup_n h
set_option maxRecDepth 20000 in
theorem atQ_atQ {p q : Nat} : atQ (atQ I p) q = atQ I q := by unfold atQ; rw [vup_s, vup_vup, vup_vup]
set_option maxRecDepth 20000 in
theorem atQ_up {p : Nat} : va_up (atQ I p) 168 (va_up (atQ I p 168) 10 ((p : Int) + 1)) = atQ I (p + 1) := by unfold atQ; rw [vup_s, vup_vup, vup_vup]; rfl
set_option maxRecDepth 20000 in
theorem c_mbyte (hL : LX S) {n : Nat} (hn : I 168 9 = (n : Int)) (hn1 : n ≤ 120) {p : Nat} (hp : p ≤ n) : tmC yX12_byteAt kX12_byteAt 1 0 0 [tR 168, tI p] (S, I, L) (tmF (some (tI (byt (I 176) n p))) (S, I, L)) := by
  refine tmC.mk (lv := [some (tR 168), some (tI p)]) 0 ⟨rfl, by decide +kernel, by decide⟩ rfl rfl ?_
  have o168 := oX168 hL
  have r168_0 := rX168_0 hL
  have r168_1 := rX168_1 hL
  have r168_3 := rX168_3 hL
  have r168_4 := rX168_4 hL
  have r168_5 := rX168_5 hL
  have r168_6 := rX168_6 hL
  have r168_7 := rX168_7 hL
  have r168_8 := rX168_8 hL
  have r168_11 := rX168_11 hL
  have r168_13 := rX168_13 hL
  have r168_17 := rX168_17 hL
  have r168_18 := rX168_18 hL
  have r168_19 := rX168_19 hL
  have r168_21 := rX168_21 hL
  have r168_22 := rX168_22 hL
  have r168_23 := rX168_23 hL
  have r168_24 := rX168_24 hL
  have r168_25 := rX168_25 hL
  have r168_26 := rX168_26 hL
  have r168_27 := rX168_27 hL
  have r168_28 := rX168_28 hL
  have r168_29 := rX168_29 hL
  have r168_30 := rX168_30 hL
  have o176 := oX176 hL
  unfold byt
  by_cases c : p < n
  · rw [if_pos c]
    refine wa_iload_n dX12_byteAt_0 rfl ?_
    refine wa_aload_n dX12_byteAt_1 rfl ?_
    refine wt_getI dX12_byteAt_2 FX12_192 (by assumption) ?_
    try first | rw [hn] | skip
    refine wa_icmp_ge 17 dX12_byteAt_5 (by decide) (by exact ⟨by omega, by omega⟩) (by exact ⟨by omega, by omega⟩) (fun c_5 => ?_) (fun c_5 => ?_)
    · omega
    · refine wa_aload_n dX12_byteAt_8 rfl ?_
      refine wt_getR dX12_byteAt_9 FX12_31 (by assumption) (by assumption) ?_
      refine wa_iload_n dX12_byteAt_12 rfl ?_
      refine wt_iald p dX12_byteAt_13 (by assumption) rfl (by omega) ?_
      try first | rw [hn] | skip
      refine wa_goto 18 dX12_byteAt_14 (by decide) ?_
      refine wa_ireturn dX12_byteAt_18 rfl ?_
      exact ⟨rfl, rfl⟩
  · rw [if_neg c]
    refine wa_iload_n dX12_byteAt_0 rfl ?_
    refine wa_aload_n dX12_byteAt_1 rfl ?_
    refine wt_getI dX12_byteAt_2 FX12_192 (by assumption) ?_
    try first | rw [hn] | skip
    refine wa_icmp_ge 17 dX12_byteAt_5 (by decide) (by exact ⟨by omega, by omega⟩) (by exact ⟨by omega, by omega⟩) (fun c_5 => ?_) (fun c_5 => ?_)
    · refine wa_iconst dX12_byteAt_17 ?_
      refine wa_ireturn dX12_byteAt_18 rfl ?_
      exact ⟨rfl, rfl⟩
    · omega
set_option maxRecDepth 20000 in
theorem byt_r (hI : tmIR I) (n p : Nat) : inR (byt (I 176) n p) := by
  unfold byt; split
  · exact hI _ _
  · exact ⟨by decide, by decide⟩
set_option maxRecDepth 20000 in
theorem mskips_loop (hL : LX S) {n : Nat} (hn : I 168 9 = (n : Int)) (hn1 : n ≤ 120) (hI : tmIR I) : ∀ (m p : Nat), p + m = n → tmW kX12_skips 2 0 0 0 [some (tR 168)] [] (S, atQ I p, L) (tmF none (S, atQ I (skp (I 176) n p), L)) := by
  intro m
  have o168 := oX168 hL
  have r168_0 := rX168_0 hL
  have r168_1 := rX168_1 hL
  have r168_3 := rX168_3 hL
  have r168_4 := rX168_4 hL
  have r168_5 := rX168_5 hL
  have r168_6 := rX168_6 hL
  have r168_7 := rX168_7 hL
  have r168_8 := rX168_8 hL
  have r168_11 := rX168_11 hL
  have r168_13 := rX168_13 hL
  have r168_17 := rX168_17 hL
  have r168_18 := rX168_18 hL
  have r168_19 := rX168_19 hL
  have r168_21 := rX168_21 hL
  have r168_22 := rX168_22 hL
  have r168_23 := rX168_23 hL
  have r168_24 := rX168_24 hL
  have r168_25 := rX168_25 hL
  have r168_26 := rX168_26 hL
  have r168_27 := rX168_27 hL
  have r168_28 := rX168_28 hL
  have r168_29 := rX168_29 hL
  have r168_30 := rX168_30 hL
  have e176 : ∀ p : Nat, atQ I p 176 = I 176 := fun p => vup_n (by decide)
  induction m with
  | zero =>
    intro p hp
    rw [skp_end (by omega)]
    have kb := c_mbyte (I := atQ I p) (L := L) hL (by rw [atQ_k (by decide)]; exact hn) hn1 (p := p) (by omega)
    rw [e176] at kb
    have hby : byt (I 176) n p = -1 := by unfold byt; rw [if_neg (by omega)]
    rw [hby] at kb
    refine wa_aload_n dX12_skips_0 rfl ?_
    refine wa_aload_n dX12_skips_1 rfl ?_
    refine wt_getI dX12_skips_2 FX12_195 (by assumption) ?_
    try first | rw [atQ_10] | skip
    refine wa_callVf (ci := 12) dX12_skips_5 KX12_byteAt LX12_198 ⟨_, _, rfl, by decide⟩ o168 (kb) (by decide) rfl rfl (Nat.le_of_ble_eq_true rfl) rfl rfl ?_
    refine wa_bipush dX12_skips_8 rfl ?_
    refine wa_icmp_ne 26 dX12_skips_10 (by decide) (by exact ⟨by omega, by omega⟩) (by exact ⟨by omega, by omega⟩) (fun c_10 => ?_) (fun c_10 => ?_)
    · refine wa_return dX12_skips_26 rfl ?_
      exact ⟨rfl, rfl⟩
    · omega
  | succ m ih =>
    intro p hp
    have nx := ih (p + 1) (by omega)
    have kb := c_mbyte (I := atQ I p) (L := L) hL (by rw [atQ_k (by decide)]; exact hn) hn1 (p := p) (by omega)
    rw [e176] at kb
    have hr := hI 176 p
    have hby : byt (I 176) n p = I 176 p := by unfold byt; rw [if_pos (by omega)]
    rw [hby] at kb
    by_cases hb : I 176 p = 32
    · rw [skp_sp (by omega) hb]
      refine wa_aload_n dX12_skips_0 rfl ?_
      refine wa_aload_n dX12_skips_1 rfl ?_
      refine wt_getI dX12_skips_2 FX12_195 (by assumption) ?_
      try first | rw [atQ_10] | skip
      refine wa_callVf (ci := 12) dX12_skips_5 KX12_byteAt LX12_198 ⟨_, _, rfl, by decide⟩ o168 (kb) (by decide) rfl rfl (Nat.le_of_ble_eq_true rfl) rfl rfl ?_
      refine wa_bipush dX12_skips_8 rfl ?_
      refine wa_icmp_ne 26 dX12_skips_10 (by decide) (by first | exact hr | exact ⟨by omega, by omega⟩) (by first | exact hr | exact ⟨by omega, by omega⟩) (fun c_10 => ?_) (fun c_10 => ?_)
      · exact absurd hb c_10
      · refine wa_aload_n dX12_skips_13 rfl ?_
        refine wa_dup dX12_skips_14 rfl ?_
        refine wt_getI dX12_skips_15 FX12_195 (by assumption) ?_
        try first | rw [atQ_10] | skip
        refine wa_iconst dX12_skips_18 ?_
        refine wa_iadd dX12_skips_19 ?_
        refine wt_putI dX12_skips_20 FX12_195 (WX12_10 _ _) (by assumption) (by first | exact hr | exact ⟨by omega, by omega⟩) ?_
        rw [atQ_up]
        refine wa_goto 0 dX12_skips_23 (by decide) ?_
        exact nx
    · rw [skp_no (by omega) hb]
      refine wa_aload_n dX12_skips_0 rfl ?_
      refine wa_aload_n dX12_skips_1 rfl ?_
      refine wt_getI dX12_skips_2 FX12_195 (by assumption) ?_
      try first | rw [atQ_10] | skip
      refine wa_callVf (ci := 12) dX12_skips_5 KX12_byteAt LX12_198 ⟨_, _, rfl, by decide⟩ o168 (kb) (by decide) rfl rfl (Nat.le_of_ble_eq_true rfl) rfl rfl ?_
      refine wa_bipush dX12_skips_8 rfl ?_
      refine wa_icmp_ne 26 dX12_skips_10 (by decide) (by first | exact hr | exact ⟨by omega, by omega⟩) (by first | exact hr | exact ⟨by omega, by omega⟩) (fun c_10 => ?_) (fun c_10 => ?_)
      · refine wa_return dX12_skips_26 rfl ?_
        exact ⟨rfl, rfl⟩
      · exact absurd c_10 hb
set_option maxRecDepth 20000 in
theorem c_mskips (hL : LX S) {n p : Nat} (hn : I 168 9 = (n : Int)) (hn1 : n ≤ 120) (hp : I 168 10 = (p : Int)) (hpn : p ≤ n) : tmC yX12_skips kX12_skips 2 0 0 [tR 168] (S, I, L) (tmF none (S, atQ I (skp (I 176) n p), L)) := by
  refine tmC.mk (lv := [some (tR 168)]) 0 ⟨rfl, by decide +kernel, by decide⟩ rfl rfl ?_
  refine wt_ir (fun hI => ?_)
  have h0 := mskips_loop (L := L) hL hn hn1 hI (n - p) p (by omega)
  rw [atQ_self hp] at h0
  exact h0
set_option maxRecDepth 20000 in
theorem c_mis (hL : LX S) {n p : Nat} (hn : I 168 9 = (n : Int)) (hn1 : n ≤ 120) (hp : I 168 10 = (p : Int)) (hpn : p ≤ n) (c : Int) (hc : inR c) : tmC yX12_is kX12_is 3 0 0 [tR 168, tI c] (S, I, L) (tmF (some (tI (if tkB (I 176) n p c then 1 else 0))) (S, atQ I (tkP (I 176) n p c), L)) := by
  refine tmC.mk (lv := [some (tR 168), some (tI c), none]) 1 ⟨rfl, by decide +kernel, by decide⟩ rfl rfl ?_
  refine wt_ir (fun hI => ?_)
  have o168 := oX168 hL
  have r168_0 := rX168_0 hL
  have r168_1 := rX168_1 hL
  have r168_3 := rX168_3 hL
  have r168_4 := rX168_4 hL
  have r168_5 := rX168_5 hL
  have r168_6 := rX168_6 hL
  have r168_7 := rX168_7 hL
  have r168_8 := rX168_8 hL
  have r168_11 := rX168_11 hL
  have r168_13 := rX168_13 hL
  have r168_17 := rX168_17 hL
  have r168_18 := rX168_18 hL
  have r168_19 := rX168_19 hL
  have r168_21 := rX168_21 hL
  have r168_22 := rX168_22 hL
  have r168_23 := rX168_23 hL
  have r168_24 := rX168_24 hL
  have r168_25 := rX168_25 hL
  have r168_26 := rX168_26 hL
  have r168_27 := rX168_27 hL
  have r168_28 := rX168_28 hL
  have r168_29 := rX168_29 hL
  have r168_30 := rX168_30 hL
  have ks := c_mskips (L := L) hL hn hn1 hp hpn
  have hb := skp_b (b := I 176) hpn
  have kb := c_mbyte (I := atQ I (skp (I 176) n p)) (L := L) hL (by rw [atQ_k (by decide)]; exact hn) hn1 (p := skp (I 176) n p) hb.2
  rw [atQ_n (by decide)] at kb
  have hby := byt_r hI n (skp (I 176) n p)
  by_cases h : tkB (I 176) n p c
  · rw [if_pos h]
    unfold tkP
    rw [if_pos h]
    have hq : byt (I 176) n (skp (I 176) n p) = c := h
    refine wa_aload_n dX12_is_0 rfl ?_
    refine wa_callVf (ci := 12) dX12_is_1 KX12_skips LX12_201 ⟨_, _, rfl, by decide⟩ o168 (ks) (by decide) rfl rfl (Nat.le_of_ble_eq_true rfl) rfl rfl ?_
    refine wa_aload_n dX12_is_4 rfl ?_
    refine wa_aload_n dX12_is_5 rfl ?_
    refine wt_getI dX12_is_6 FX12_195 (by assumption) ?_
    try first | rw [atQ_10] | skip
    refine wa_callVf (ci := 12) dX12_is_9 KX12_byteAt LX12_198 ⟨_, _, rfl, by decide⟩ o168 (kb) (by decide) rfl rfl (Nat.le_of_ble_eq_true rfl) rfl rfl ?_
    refine wa_iload_n dX12_is_12 rfl ?_
    refine wa_icmp_ne 20 dX12_is_13 (by decide) (by first | exact hby | exact hc | exact ⟨by omega, by omega⟩) (by first | exact hby | exact hc | exact ⟨by omega, by omega⟩) (fun c_13 => ?_) (fun c_13 => ?_)
    · exact absurd hq c_13
    · refine wa_iconst dX12_is_16 ?_
      refine wa_goto 21 dX12_is_17 (by decide) ?_
      refine wa_istore_n dX12_is_21 (by decide) ?_
      refine wa_aload_n dX12_is_22 rfl ?_
      refine wa_dup dX12_is_23 rfl ?_
      refine wt_getI dX12_is_24 FX12_195 (by assumption) ?_
      try first | rw [atQ_10] | skip
      refine wa_iload_n dX12_is_27 rfl ?_
      refine wa_if_eq 35 dX12_is_28 (by decide) (by first | exact hby | exact hc | exact ⟨by omega, by omega⟩) (fun c_28 => ?_) (fun c_28 => ?_)
      · omega
      · refine wa_iconst dX12_is_31 ?_
        refine wa_goto 36 dX12_is_32 (by decide) ?_
        refine wa_iadd dX12_is_36 ?_
        refine wt_putI dX12_is_37 FX12_195 (WX12_10 _ _) (by assumption) (by first | exact hby | exact hc | exact ⟨by omega, by omega⟩) ?_
        rw [atQ_up]
        refine wa_iload_n dX12_is_40 rfl ?_
        refine wa_zreturn dX12_is_41 rfl (by first | exact Or.inl rfl | exact Or.inr rfl) ?_
        exact ⟨rfl, rfl⟩
  · rw [if_neg h]
    unfold tkP
    rw [if_neg h]
    have ee : va_up (atQ I (skp (I 176) n p)) 168 (va_up (atQ I (skp (I 176) n p) 168) 10 ((skp (I 176) n p : Int) + 0)) = atQ I (skp (I 176) n p) := by
      rw [Int.add_zero]; unfold atQ; rw [vup_s, vup_vup, vup_vup]
    refine wa_aload_n dX12_is_0 rfl ?_
    refine wa_callVf (ci := 12) dX12_is_1 KX12_skips LX12_201 ⟨_, _, rfl, by decide⟩ o168 (ks) (by decide) rfl rfl (Nat.le_of_ble_eq_true rfl) rfl rfl ?_
    refine wa_aload_n dX12_is_4 rfl ?_
    refine wa_aload_n dX12_is_5 rfl ?_
    refine wt_getI dX12_is_6 FX12_195 (by assumption) ?_
    try first | rw [atQ_10] | skip
    refine wa_callVf (ci := 12) dX12_is_9 KX12_byteAt LX12_198 ⟨_, _, rfl, by decide⟩ o168 (kb) (by decide) rfl rfl (Nat.le_of_ble_eq_true rfl) rfl rfl ?_
    refine wa_iload_n dX12_is_12 rfl ?_
    refine wa_icmp_ne 20 dX12_is_13 (by decide) (by first | exact hby | exact hc | exact ⟨by omega, by omega⟩) (by first | exact hby | exact hc | exact ⟨by omega, by omega⟩) (fun c_13 => ?_) (fun c_13 => ?_)
    · refine wa_iconst dX12_is_20 ?_
      refine wa_istore_n dX12_is_21 (by decide) ?_
      refine wa_aload_n dX12_is_22 rfl ?_
      refine wa_dup dX12_is_23 rfl ?_
      refine wt_getI dX12_is_24 FX12_195 (by assumption) ?_
      try first | rw [atQ_10] | skip
      refine wa_iload_n dX12_is_27 rfl ?_
      refine wa_if_eq 35 dX12_is_28 (by decide) (by first | exact hby | exact hc | exact ⟨by omega, by omega⟩) (fun c_28 => ?_) (fun c_28 => ?_)
      · refine wa_iconst dX12_is_35 ?_
        refine wa_iadd dX12_is_36 ?_
        refine wt_putI dX12_is_37 FX12_195 (WX12_10 _ _) (by assumption) (by first | exact hby | exact hc | exact ⟨by omega, by omega⟩) ?_
        rw [ee]
        refine wa_iload_n dX12_is_40 rfl ?_
        refine wa_zreturn dX12_is_41 rfl (by first | exact Or.inl rfl | exact Or.inr rfl) ?_
        exact ⟨rfl, rfl⟩
      · omega
    · exact absurd c_13 h
set_option maxRecDepth 20000 in
theorem c_msignBy {h : tmH} (c : Int) (hc : inR c) : tmC yX12_signBy kX12_signBy 2 0 0 [tI c] h (tmF (some (tI (sgOf c))) h) := by
  refine tmC.mk (lv := [some (tI c)]) 0 ⟨rfl, by decide +kernel, by decide⟩ rfl rfl ?_
  have k1 := c_min (h := h) c 97 100 hc ⟨by decide, by decide⟩ ⟨by decide, by decide⟩
  have k2 := c_min (h := h) c 102 104 hc ⟨by decide, by decide⟩ ⟨by decide, by decide⟩
  have k3 := c_min (h := h) c 120 122 hc ⟨by decide, by decide⟩ ⟨by decide, by decide⟩
  unfold sgOf
  by_cases c1 : 97 ≤ c ∧ c ≤ 100
  · rw [if_pos c1] at k1
    rw [if_neg (by omega), if_pos c1]
    refine wa_iload_n dX12_signBy_0 rfl ?_
    refine wa_bipush dX12_signBy_1 rfl ?_
    refine wa_bipush dX12_signBy_3 rfl ?_
    refine wa_callSf dX12_signBy_5 KX12_in LX12_79 (k1) (by decide) rfl rfl (Nat.le_of_ble_eq_true rfl) rfl rfl ?_
    refine wa_if_eq 18 dX12_signBy_8 (by decide) (by exact ⟨by omega, by omega⟩) (fun c_8 => ?_) (fun c_8 => ?_)
    · omega
    · refine wa_iload_n dX12_signBy_11 rfl ?_
      refine wa_bipush dX12_signBy_12 rfl ?_
      refine wa_isub dX12_signBy_14 ?_
      refine wa_goto 60 dX12_signBy_15 (by decide) ?_
      refine wa_ireturn dX12_signBy_60 rfl ?_
      exact ⟨rfl, rfl⟩
  · rw [if_neg c1] at k1
    by_cases c2 : 102 ≤ c ∧ c ≤ 104
    · rw [if_pos c2] at k2
      rw [if_neg (by omega), if_neg c1, if_pos c2]
      have e : c - 102 + 4 = c - 98 := by omega
      refine wa_iload_n dX12_signBy_0 rfl ?_
      refine wa_bipush dX12_signBy_1 rfl ?_
      refine wa_bipush dX12_signBy_3 rfl ?_
      refine wa_callSf dX12_signBy_5 KX12_in LX12_79 (k1) (by decide) rfl rfl (Nat.le_of_ble_eq_true rfl) rfl rfl ?_
      refine wa_if_eq 18 dX12_signBy_8 (by decide) (by exact ⟨by omega, by omega⟩) (fun c_8 => ?_) (fun c_8 => ?_)
      · refine wa_iload_n dX12_signBy_18 rfl ?_
        refine wa_bipush dX12_signBy_19 rfl ?_
        refine wa_bipush dX12_signBy_21 rfl ?_
        refine wa_callSf dX12_signBy_23 KX12_in LX12_79 (k2) (by decide) rfl rfl (Nat.le_of_ble_eq_true rfl) rfl rfl ?_
        refine wa_if_eq 38 dX12_signBy_26 (by decide) (by exact ⟨by omega, by omega⟩) (fun c_26 => ?_) (fun c_26 => ?_)
        · omega
        · refine wa_iload_n dX12_signBy_29 rfl ?_
          refine wa_bipush dX12_signBy_30 rfl ?_
          refine wa_isub dX12_signBy_32 ?_
          refine wa_iconst dX12_signBy_33 ?_
          refine wa_iadd dX12_signBy_34 ?_
          rw [e]
          refine wa_goto 60 dX12_signBy_35 (by decide) ?_
          refine wa_ireturn dX12_signBy_60 rfl ?_
          exact ⟨rfl, rfl⟩
      · omega
    · rw [if_neg c2] at k2
      by_cases c3 : 120 ≤ c ∧ c ≤ 122
      · rw [if_pos c3] at k3
        rw [if_pos c3]
        have e : c - 120 + 7 = c - 113 := by omega
        refine wa_iload_n dX12_signBy_0 rfl ?_
        refine wa_bipush dX12_signBy_1 rfl ?_
        refine wa_bipush dX12_signBy_3 rfl ?_
        refine wa_callSf dX12_signBy_5 KX12_in LX12_79 (k1) (by decide) rfl rfl (Nat.le_of_ble_eq_true rfl) rfl rfl ?_
        refine wa_if_eq 18 dX12_signBy_8 (by decide) (by exact ⟨by omega, by omega⟩) (fun c_8 => ?_) (fun c_8 => ?_)
        · refine wa_iload_n dX12_signBy_18 rfl ?_
          refine wa_bipush dX12_signBy_19 rfl ?_
          refine wa_bipush dX12_signBy_21 rfl ?_
          refine wa_callSf dX12_signBy_23 KX12_in LX12_79 (k2) (by decide) rfl rfl (Nat.le_of_ble_eq_true rfl) rfl rfl ?_
          refine wa_if_eq 38 dX12_signBy_26 (by decide) (by exact ⟨by omega, by omega⟩) (fun c_26 => ?_) (fun c_26 => ?_)
          · refine wa_iload_n dX12_signBy_38 rfl ?_
            refine wa_bipush dX12_signBy_39 rfl ?_
            refine wa_bipush dX12_signBy_41 rfl ?_
            refine wa_callSf dX12_signBy_43 KX12_in LX12_79 (k3) (by decide) rfl rfl (Nat.le_of_ble_eq_true rfl) rfl rfl ?_
            refine wa_if_eq 59 dX12_signBy_46 (by decide) (by exact ⟨by omega, by omega⟩) (fun c_46 => ?_) (fun c_46 => ?_)
            · omega
            · refine wa_iload_n dX12_signBy_49 rfl ?_
              refine wa_bipush dX12_signBy_50 rfl ?_
              refine wa_isub dX12_signBy_52 ?_
              refine wa_bipush dX12_signBy_53 rfl ?_
              refine wa_iadd dX12_signBy_55 ?_
              rw [e]
              refine wa_goto 60 dX12_signBy_56 (by decide) ?_
              refine wa_ireturn dX12_signBy_60 rfl ?_
              exact ⟨rfl, rfl⟩
          · omega
        · omega
      · rw [if_neg c3] at k3
        rw [if_neg c3, if_neg c1, if_neg c2]
        refine wa_iload_n dX12_signBy_0 rfl ?_
        refine wa_bipush dX12_signBy_1 rfl ?_
        refine wa_bipush dX12_signBy_3 rfl ?_
        refine wa_callSf dX12_signBy_5 KX12_in LX12_79 (k1) (by decide) rfl rfl (Nat.le_of_ble_eq_true rfl) rfl rfl ?_
        refine wa_if_eq 18 dX12_signBy_8 (by decide) (by exact ⟨by omega, by omega⟩) (fun c_8 => ?_) (fun c_8 => ?_)
        · refine wa_iload_n dX12_signBy_18 rfl ?_
          refine wa_bipush dX12_signBy_19 rfl ?_
          refine wa_bipush dX12_signBy_21 rfl ?_
          refine wa_callSf dX12_signBy_23 KX12_in LX12_79 (k2) (by decide) rfl rfl (Nat.le_of_ble_eq_true rfl) rfl rfl ?_
          refine wa_if_eq 38 dX12_signBy_26 (by decide) (by exact ⟨by omega, by omega⟩) (fun c_26 => ?_) (fun c_26 => ?_)
          · refine wa_iload_n dX12_signBy_38 rfl ?_
            refine wa_bipush dX12_signBy_39 rfl ?_
            refine wa_bipush dX12_signBy_41 rfl ?_
            refine wa_callSf dX12_signBy_43 KX12_in LX12_79 (k3) (by decide) rfl rfl (Nat.le_of_ble_eq_true rfl) rfl rfl ?_
            refine wa_if_eq 59 dX12_signBy_46 (by decide) (by exact ⟨by omega, by omega⟩) (fun c_46 => ?_) (fun c_46 => ?_)
            · refine wa_iconst dX12_signBy_59 ?_
              refine wa_ireturn dX12_signBy_60 rfl ?_
              exact ⟨rfl, rfl⟩
            · omega
          · omega
        · omega
end S99za
