/-! ===== 44: Text: peek, take, open ===== -/
def skN (b : Nat → Int) : Nat → Nat → Nat
  | 0, p => p
  | k + 1, p => if b p = 32 then skN b k (p + 1) else p
/-- behind blanks -/
def skp (b : Nat → Int) (n p : Nat) : Nat := skN b (n - p) p
def byt (b : Nat → Int) (n p : Nat) : Int := if p < n then b p else -1
theorem skN_b (b : Nat → Int) : ∀ k p, p ≤ skN b k p ∧ skN b k p ≤ p + k := by
  intro k
  induction k with
  | zero => intro p; exact ⟨Nat.le_refl _, Nat.le_refl _⟩
  | succ k ih =>
    intro p
    simp only [skN]
    have := ih (p + 1)
    split <;> omega
theorem skp_b {b : Nat → Int} {n p : Nat} (h : p ≤ n) : p ≤ skp b n p ∧ skp b n p ≤ n := by
  have := skN_b b (n - p) p
  unfold skp; omega
theorem skp_end {b : Nat → Int} {n p : Nat} (h : n ≤ p) : skp b n p = p := by unfold skp; rw [show n - p = 0 by omega]; rfl
theorem skp_sp {b : Nat → Int} {n p : Nat} (h : p < n) (hb : b p = 32) : skp b n p = skp b n (p + 1) := by
  unfold skp; rw [show n - p = (n - (p + 1)) + 1 by omega]; simp only [skN, hb, if_true]
theorem skp_no {b : Nat → Int} {n p : Nat} (h : p < n) (hb : b p ≠ 32) : skp b n p = p := by
  unfold skp; rw [show n - p = (n - (p + 1)) + 1 by omega]; simp only [skN, hb, if_false]
/-- whether the byte c is next, and where the reading stands then -/
abbrev tkB (b : Nat → Int) (n p : Nat) (c : Int) : Prop := byt b n (skp b n p) = c
def tkP (b : Nat → Int) (n p : Nat) (c : Int) : Nat := if tkB b n p c then skp b n p + 1 else skp b n p
section S44
variable {S : tmS} {I : Nat → Nat → Int} {L : Nat → Nat → Int64}
/-- where the text's reading stands -/
abbrev atP (I : Nat → Nat → Int) (p : Nat) : Nat → Nat → Int := va_up I 155 (va_up (I 155) 8 (p : Int))
set_option maxRecDepth 20000 in
theorem peek_loop (hL : LX S) {n : Nat} (hn : I 155 1 = (n : Int)) (hn1 : n ≤ 120) (hI : ∀ a k, inR (I a k)) : ∀ (m p : Nat), p + m = n →
    tmW kX9_peek 1 0 0 0 [some (tR 155)] [] (S, atP I p, L) (tmF (some (tI (byt (I 156) n (skp (I 156) n p)))) (S, atP I (skp (I 156) n p), L)) := by
  intro m
  have o155 := oX155 hL
  have r155_0 := rX155_0 hL
  have r155_2 := rX155_2 hL
  have r155_3 := rX155_3 hL
  have r155_4 := rX155_4 hL
  have r155_5 := rX155_5 hL
  have r155_6 := rX155_6 hL
  have o156 := oX156 hL
  have e1 : ∀ p : Nat, atP I p 155 1 = (n : Int) := fun p => by unfold atP; rw [vup_s, vup_n (by decide)]; exact hn
  have e8 : ∀ p : Nat, atP I p 155 8 = (p : Int) := fun p => by unfold atP; rw [vup_s, vup_s]
  have e156 : ∀ p : Nat, atP I p 156 = I 156 := fun p => vup_n (by decide)
  induction m with
  | zero =>
    intro p hp
    rw [skp_end (by omega)]
    have hby : byt (I 156) n p = -1 := by unfold byt; rw [if_neg (by omega)]
    rw [hby]
    refine wa_aload_n dX9_peek_0 rfl ?_
    refine wt_getI dX9_peek_1 FX9_37 (by assumption) ?_
    try first | rw [e8] | rw [e1]
    refine wa_aload_n dX9_peek_4 rfl ?_
    refine wt_getI dX9_peek_5 FX9_15 (by assumption) ?_
    try first | rw [e8] | rw [e1]
    refine wa_icmp_ge 38 dX9_peek_8 (by decide) (by exact ⟨by omega, by omega⟩) (by exact ⟨by omega, by omega⟩) (fun c_8 => ?_) (fun c_8 => ?_)
    · refine wa_aload_n dX9_peek_38 rfl ?_
      refine wt_getI dX9_peek_39 FX9_37 (by assumption) ?_
      try first | rw [e8] | rw [e1]
      refine wa_aload_n dX9_peek_42 rfl ?_
      refine wt_getI dX9_peek_43 FX9_15 (by assumption) ?_
      try first | rw [e8] | rw [e1]
      refine wa_icmp_ge 61 dX9_peek_46 (by decide) (by exact ⟨by omega, by omega⟩) (by exact ⟨by omega, by omega⟩) (fun c_46 => ?_) (fun c_46 => ?_)
      · refine wa_iconst dX9_peek_61 ?_
        refine wa_ireturn dX9_peek_62 rfl ?_
        exact ⟨rfl, rfl⟩
      · omega
    · omega
  | succ m ih =>
    intro p hp
    have nx := ih (p + 1) (by omega)
    have hr := hI 156 p
    by_cases hb : I 156 p = 32
    · rw [skp_sp (by omega) hb]
      refine wa_aload_n dX9_peek_0 rfl ?_
      refine wt_getI dX9_peek_1 FX9_37 (by assumption) ?_
      try first | rw [e8] | rw [e1]
      refine wa_aload_n dX9_peek_4 rfl ?_
      refine wt_getI dX9_peek_5 FX9_15 (by assumption) ?_
      try first | rw [e8] | rw [e1]
      refine wa_icmp_ge 38 dX9_peek_8 (by decide) (by first | exact ⟨by omega, by omega⟩ | (rw [e156]; exact hr)) (by first | exact ⟨by omega, by omega⟩ | (rw [e156]; exact hr)) (fun c_8 => ?_) (fun c_8 => ?_)
      · omega
      · refine wa_aload_n dX9_peek_11 rfl ?_
        refine wt_getR dX9_peek_12 FX9_9 (by assumption) (by assumption) ?_
        refine wa_aload_n dX9_peek_15 rfl ?_
        refine wt_getI dX9_peek_16 FX9_37 (by assumption) ?_
        try first | rw [e8] | rw [e1]
        refine wt_iald p dX9_peek_19 (by assumption) rfl (by omega) ?_
        try first | rw [e8] | rw [e1]
        refine wa_bipush dX9_peek_20 rfl ?_
        refine wa_icmp_ne 38 dX9_peek_22 (by decide) (by first | exact ⟨by omega, by omega⟩ | (rw [e156]; exact hr)) (by first | exact ⟨by omega, by omega⟩ | (rw [e156]; exact hr)) (fun c_22 => ?_) (fun c_22 => ?_)
        · exact absurd hb (by rw [e156] at c_22; exact c_22)
        · refine wa_aload_n dX9_peek_25 rfl ?_
          refine wa_dup dX9_peek_26 rfl ?_
          refine wt_getI dX9_peek_27 FX9_37 (by assumption) ?_
          try first | rw [e8] | rw [e1]
          refine wa_iconst dX9_peek_30 ?_
          refine wa_iadd dX9_peek_31 ?_
          refine wt_putI dX9_peek_32 FX9_37 (WX9_8 _ _) (by assumption) (by first | exact ⟨by omega, by omega⟩ | (rw [e156]; exact hr)) ?_
          refine wa_goto 0 dX9_peek_35 (by decide) ?_
          have ee : va_up (atP I p) 155 (va_up (atP I p 155) 8 ((p : Int) + 1)) = atP I (p + 1) := by unfold atP; rw [vup_s, vup_vup, vup_vup]; rfl
          rw [ee]
          exact nx
    · rw [skp_no (by omega) hb]
      have hby : byt (I 156) n p = I 156 p := by unfold byt; rw [if_pos (by omega)]
      rw [hby]
      refine wa_aload_n dX9_peek_0 rfl ?_
      refine wt_getI dX9_peek_1 FX9_37 (by assumption) ?_
      try first | rw [e8] | rw [e1]
      refine wa_aload_n dX9_peek_4 rfl ?_
      refine wt_getI dX9_peek_5 FX9_15 (by assumption) ?_
      try first | rw [e8] | rw [e1]
      refine wa_icmp_ge 38 dX9_peek_8 (by decide) (by first | exact ⟨by omega, by omega⟩ | (rw [e156]; exact hr)) (by first | exact ⟨by omega, by omega⟩ | (rw [e156]; exact hr)) (fun c_8 => ?_) (fun c_8 => ?_)
      · omega
      · refine wa_aload_n dX9_peek_11 rfl ?_
        refine wt_getR dX9_peek_12 FX9_9 (by assumption) (by assumption) ?_
        refine wa_aload_n dX9_peek_15 rfl ?_
        refine wt_getI dX9_peek_16 FX9_37 (by assumption) ?_
        try first | rw [e8] | rw [e1]
        refine wt_iald p dX9_peek_19 (by assumption) rfl (by omega) ?_
        try first | rw [e8] | rw [e1]
        refine wa_bipush dX9_peek_20 rfl ?_
        refine wa_icmp_ne 38 dX9_peek_22 (by decide) (by first | exact ⟨by omega, by omega⟩ | (rw [e156]; exact hr)) (by first | exact ⟨by omega, by omega⟩ | (rw [e156]; exact hr)) (fun c_22 => ?_) (fun c_22 => ?_)
        · refine wa_aload_n dX9_peek_38 rfl ?_
          refine wt_getI dX9_peek_39 FX9_37 (by assumption) ?_
          try first | rw [e8] | rw [e1]
          refine wa_aload_n dX9_peek_42 rfl ?_
          refine wt_getI dX9_peek_43 FX9_15 (by assumption) ?_
          try first | rw [e8] | rw [e1]
          refine wa_icmp_ge 61 dX9_peek_46 (by decide) (by first | exact ⟨by omega, by omega⟩ | (rw [e156]; exact hr)) (by first | exact ⟨by omega, by omega⟩ | (rw [e156]; exact hr)) (fun c_46 => ?_) (fun c_46 => ?_)
          · omega
          · refine wa_aload_n dX9_peek_49 rfl ?_
            refine wt_getR dX9_peek_50 FX9_9 (by assumption) (by assumption) ?_
            refine wa_aload_n dX9_peek_53 rfl ?_
            refine wt_getI dX9_peek_54 FX9_37 (by assumption) ?_
            try first | rw [e8] | rw [e1]
            refine wt_iald p dX9_peek_57 (by assumption) rfl (by omega) ?_
            try first | rw [e8] | rw [e1]
            refine wa_goto 62 dX9_peek_58 (by decide) ?_
            refine wa_ireturn dX9_peek_62 rfl ?_
            exact ⟨rfl, rfl⟩
        · exact absurd (by rw [e156] at c_22; exact c_22) hb
theorem c_peek (hL : LX S) {n p : Nat} (hn : I 155 1 = (n : Int)) (hn1 : n ≤ 120) (hp : I 155 8 = (p : Int)) (hpn : p ≤ n) : tmC yX9_peek kX9_peek 1 0 0 [tR 155] (S, I, L) (tmF (some (tI (byt (I 156) n (skp (I 156) n p)))) (S, atP I (skp (I 156) n p), L)) := by
  refine tmC.mk (lv := [some (tR 155)]) 0 ⟨rfl, by decide +kernel, by decide⟩ rfl rfl ?_
  refine wt_ir (fun hI => ?_)
  have h0 := peek_loop (L := L) hL hn hn1 hI (n - p) p (by omega)
  have e0 : atP I p = I := by unfold atP; rw [← hp, vup_self, vup_self]
  rw [e0] at h0
  exact h0
set_option maxRecDepth 20000 in
theorem c_take (hL : LX S) {n p : Nat} (hn : I 155 1 = (n : Int)) (hn1 : n ≤ 120) (hp : I 155 8 = (p : Int)) (hpn : p ≤ n) (c : Int) (hc : inR c) : tmC yX9_take kX9_take 2 0 0 [tR 155, tI c] (S, I, L) (tmF (some (tI (if tkB (I 156) n p c then 1 else 0))) (S, atP I (tkP (I 156) n p c), L)) := by
  refine tmC.mk (lv := [some (tR 155), some (tI c)]) 0 ⟨rfl, by decide +kernel, by decide⟩ rfl rfl ?_
  refine wt_ir (fun hI => ?_)
  have o155 := oX155 hL
  have r155_0 := rX155_0 hL
  have r155_2 := rX155_2 hL
  have r155_3 := rX155_3 hL
  have r155_4 := rX155_4 hL
  have r155_5 := rX155_5 hL
  have r155_6 := rX155_6 hL
  have hpk := c_peek (L := L) hL hn hn1 hp hpn
  have hb := skp_b (b := I 156) hpn
  have e8 : ∀ p : Nat, atP I p 155 8 = (p : Int) := fun p => by unfold atP; rw [vup_s, vup_s]
  have hby : inR (byt (I 156) n (skp (I 156) n p)) := by
    unfold byt; split
    · exact hI _ _
    · exact ⟨by decide, by decide⟩
  by_cases h : tkB (I 156) n p c
  · rw [if_pos h]
    unfold tkP
    rw [if_pos h]
    have hq : byt (I 156) n (skp (I 156) n p) = c := h
    refine wa_aload_n dX9_take_0 rfl ?_
    refine wa_callVf (ci := 9) dX9_take_1 KX9_peek LX9_48 ⟨_, _, rfl, by decide⟩ o155 (hpk) (by decide) rfl rfl (Nat.le_of_ble_eq_true rfl) rfl rfl ?_
    refine wa_iload_n dX9_take_4 rfl ?_
    refine wa_icmp_eq 10 dX9_take_5 (by decide) (by first | exact hby | exact hc | exact ⟨by omega, by omega⟩) (by first | exact hby | exact hc | exact ⟨by omega, by omega⟩) (fun c_5 => ?_) (fun c_5 => ?_)
    · refine wa_aload_n dX9_take_10 rfl ?_
      refine wa_dup dX9_take_11 rfl ?_
      refine wt_getI dX9_take_12 FX9_37 (by assumption) ?_
      try try rw [e8]
      refine wa_iconst dX9_take_15 ?_
      refine wa_iadd dX9_take_16 ?_
      refine wt_putI dX9_take_17 FX9_37 (WX9_8 _ _) (by assumption) (by first | exact hby | exact hc | exact ⟨by omega, by omega⟩) ?_
      refine wa_iconst dX9_take_20 ?_
      refine wa_zreturn dX9_take_21 rfl (by first | exact Or.inl rfl | exact Or.inr rfl) ?_
      refine ⟨rfl, ?_⟩
      unfold atP
      rw [vup_s, vup_vup, vup_vup]; rfl
    · exact absurd hq c_5
  · rw [if_neg h]
    unfold tkP
    rw [if_neg h]
    refine wa_aload_n dX9_take_0 rfl ?_
    refine wa_callVf (ci := 9) dX9_take_1 KX9_peek LX9_48 ⟨_, _, rfl, by decide⟩ o155 (hpk) (by decide) rfl rfl (Nat.le_of_ble_eq_true rfl) rfl rfl ?_
    refine wa_iload_n dX9_take_4 rfl ?_
    refine wa_icmp_eq 10 dX9_take_5 (by decide) (by first | exact hby | exact hc | exact ⟨by omega, by omega⟩) (by first | exact hby | exact hc | exact ⟨by omega, by omega⟩) (fun c_5 => ?_) (fun c_5 => ?_)
    · exact absurd c_5 h
    · refine wa_iconst dX9_take_8 ?_
      refine wa_zreturn dX9_take_9 rfl (by first | exact Or.inl rfl | exact Or.inr rfl) ?_
      exact ⟨rfl, rfl⟩
set_option maxRecDepth 20000 in
theorem c_open (hL : LX S) {dp : Nat} (hd : I 155 7 = (dp : Int)) (hd1 : dp < 120) (s : Int) (hs : inR s) : tmC yX9_open kX9_open 1 0 0 [tR 155, tI s] (S, I, L) (tmF (some (tI 1)) (S, va_up (va_up (va_up I 162 (va_up (I 162) dp s)) 163 (va_up (I 163) dp (-1))) 155 (va_up (I 155) 7 ((dp + 1 : Nat) : Int)), L)) := by
  refine tmC.mk (lv := [some (tR 155), some (tI s)]) 0 ⟨rfl, by decide +kernel, by decide⟩ rfl rfl ?_
  have o155 := oX155 hL
  have r155_0 := rX155_0 hL
  have r155_2 := rX155_2 hL
  have r155_3 := rX155_3 hL
  have r155_4 := rX155_4 hL
  have r155_5 := rX155_5 hL
  have r155_6 := rX155_6 hL
  have o162 := oX162 hL
  have o163 := oX163 hL
  refine wa_aload_n dX9_open_0 rfl ?_
  refine wt_getI dX9_open_1 FX9_34 (by assumption) ?_
  try simp (disch := omega) only [vup_n, vup_s, hd]
  refine wa_bipush dX9_open_4 rfl ?_
  refine wa_icmp_lt 11 dX9_open_6 (by decide) (by first | exact hs | exact ⟨by omega, by omega⟩) (by first | exact hs | exact ⟨by omega, by omega⟩) (fun c_6 => ?_) (fun c_6 => ?_)
  · refine wa_aload_n dX9_open_11 rfl ?_
    refine wt_getR dX9_open_12 FX9_28 (by assumption) (by assumption) ?_
    refine wa_aload_n dX9_open_15 rfl ?_
    refine wt_getI dX9_open_16 FX9_34 (by assumption) ?_
    try simp (disch := omega) only [vup_n, vup_s, hd]
    refine wa_iload_n dX9_open_19 rfl ?_
    refine wt_iast dp dX9_open_20 (by assumption) rfl (by omega) (by first | exact hs | exact ⟨by omega, by omega⟩) ?_
    refine wa_aload_n dX9_open_21 rfl ?_
    refine wt_getR dX9_open_22 FX9_31 (by assumption) (by assumption) ?_
    refine wa_aload_n dX9_open_25 rfl ?_
    refine wt_getI dX9_open_26 FX9_34 (by assumption) ?_
    try simp (disch := omega) only [vup_n, vup_s, hd]
    refine wa_iconst dX9_open_29 ?_
    refine wt_iast dp dX9_open_30 (by assumption) rfl (by omega) (by first | exact hs | exact ⟨by omega, by omega⟩) ?_
    refine wa_aload_n dX9_open_31 rfl ?_
    refine wa_dup dX9_open_32 rfl ?_
    refine wt_getI dX9_open_33 FX9_34 (by assumption) ?_
    try simp (disch := omega) only [vup_n, vup_s, hd]
    refine wa_iconst dX9_open_36 ?_
    refine wa_iadd dX9_open_37 ?_
    refine wt_putI dX9_open_38 FX9_34 (WX9_7 _ _) (by assumption) (by first | exact hs | exact ⟨by omega, by omega⟩) ?_
    refine wa_iconst dX9_open_41 ?_
    refine wa_zreturn dX9_open_42 rfl (by first | exact Or.inl rfl | exact Or.inr rfl) ?_
    exact ⟨rfl, rfl⟩
  · omega
end S44
