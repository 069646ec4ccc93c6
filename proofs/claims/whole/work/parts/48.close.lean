/-! ===== 48: Text.closeBehind ===== -/
/-- the nodes that are read (how many; signs, parts, stages), what is open, where the reading stands -/
abbrev ZS : Type := Nat × (Nat → Int) × (Nat → Int) × (Nat → Int) × (Nat → Int) × (Nat → Int) × (Nat → Int) × Nat
def zOf (I : Nat → Nat → Int) : ZS := ((I 157 0).toNat, I 158, I 159, I 160, I 161, I 162, I 163, (I 155 8).toNat)
def zStage (sz : Nat) (st : Nat → Int) (s a b : Int) : Int := if 7 ≤ s then s - 6 else (if tmStageOf sz st a < tmStageOf sz st b then tmStageOf sz st b else tmStageOf sz st a)
/-- a node comes -/
def zAdd (Z : ZS) (s a b : Int) : ZS := (Z.1 + 1, va_up Z.2.1 Z.1 s, va_up Z.2.2.1 Z.1 a, va_up Z.2.2.2.1 Z.1 b, va_up Z.2.2.2.2.1 Z.1 (zStage Z.1 Z.2.2.2.2.1 s a b), Z.2.2.2.2.2.1, Z.2.2.2.2.2.2.1, Z.2.2.2.2.2.2.2)
def zTo (Z : ZS) (p : Nat) : ZS := (Z.1, Z.2.1, Z.2.2.1, Z.2.2.2.1, Z.2.2.2.2.1, Z.2.2.2.2.2.1, Z.2.2.2.2.2.2.1, p)
def zFirst (Z : ZS) (k : Nat) (v : Int) : ZS := (Z.1, Z.2.1, Z.2.2.1, Z.2.2.2.1, Z.2.2.2.2.1, Z.2.2.2.2.2.1, va_up Z.2.2.2.2.2.2.1 k v, Z.2.2.2.2.2.2.2)
/-- behind a whole part -/
def cbZ (b : Nat → Int) (n : Nat) : Nat → ZS → Int → Bool × Nat × ZS
  | 0, Z, _ => (true, 0, Z)
  | k + 1, Z, node =>
    if Z.2.2.2.2.2.1 k = 6 ∧ Z.2.2.2.2.2.2.1 k = -1 then (decide (tkB b n Z.2.2.2.2.2.2.2 44), k + 1, zTo (zFirst Z k node) (tkP b n Z.2.2.2.2.2.2.2 44))
    else if tkB b n Z.2.2.2.2.2.2.2 41 then cbZ b n k (zAdd (zTo Z (tkP b n Z.2.2.2.2.2.2.2 41)) (Z.2.2.2.2.2.1 k) (if Z.2.2.2.2.2.1 k = 6 then Z.2.2.2.2.2.2.1 k else node) (if Z.2.2.2.2.2.1 k = 6 then node else -1)) (Z.1 : Int)
    else (false, k + 1, zTo Z (tkP b n Z.2.2.2.2.2.2.2 41))
def TxFr (I I' : Nat → Nat → Int) : Prop := (∀ a, a ≠ 155 → a ≠ 157 → a ≠ 158 → a ≠ 159 → a ≠ 160 → a ≠ 161 → a ≠ 162 → a ≠ 163 → I' a = I a) ∧ (∀ k, k ≠ 7 → k ≠ 8 → I' 155 k = I 155 k) ∧ ∀ k, k ≠ 0 → I' 157 k = I 157 k
theorem TxFr.rfl' {I : Nat → Nat → Int} : TxFr I I := ⟨fun _ _ _ _ _ _ _ _ _ => rfl, fun _ _ _ => rfl, fun _ _ => rfl⟩
theorem TxFr.trans {I J K : Nat → Nat → Int} (h : TxFr I J) (g : TxFr J K) : TxFr I K := ⟨fun a a1 a2 a3 a4 a5 a6 a7 a8 => by rw [g.1 a a1 a2 a3 a4 a5 a6 a7 a8, h.1 a a1 a2 a3 a4 a5 a6 a7 a8], fun k k1 k2 => by rw [g.2.1 k k1 k2, h.2.1 k k1 k2], fun k k1 => by rw [g.2.2 k k1, h.2.2 k k1]⟩
/-- the heap holds what is read, the depth and the place as numbers -/
def ZH (I : Nat → Nat → Int) (dp : Nat) (Z : ZS) : Prop := zOf I = Z ∧ I 157 0 = (Z.1 : Int) ∧ I 155 8 = (Z.2.2.2.2.2.2.2 : Int) ∧ I 155 7 = (dp : Int)
/-- what stands while a side is read -/
def ZI (n dp : Nat) (Z : ZS) : Prop := Z.2.2.2.2.2.2.2 ≤ n ∧ Z.1 + dp ≤ Z.2.2.2.2.2.2.2 ∧ ∀ k, k < dp → 4 ≤ Z.2.2.2.2.2.1 k ∧ Z.2.2.2.2.2.1 k ≤ 6
theorem tkP_b {b : Nat → Int} {n p : Nat} (hp : p ≤ n) {c : Int} (hc : 0 ≤ c) : p ≤ tkP b n p c ∧ tkP b n p c ≤ n ∧ (tkB b n p c → p + 1 ≤ tkP b n p c) := by
  have h := skp_b (b := b) hp
  unfold tkP
  by_cases z : tkB b n p c
  · rw [if_pos z]
    have : skp b n p < n := by
      have zz : byt b n (skp b n p) = c := z
      unfold byt at zz
      by_cases q : skp b n p < n
      · exact q
      · rw [if_neg q] at zz; omega
    exact ⟨by omega, by omega, fun _ => by omega⟩
  · rw [if_neg z]; exact ⟨by omega, by omega, fun q => absurd q z⟩
theorem cbZ_inv {b : Nat → Int} {n : Nat} : ∀ (dp : Nat) (Z : ZS) (node : Int), ZI n dp Z → ZI n (cbZ b n dp Z node).2.1 (cbZ b n dp Z node).2.2 := by
  intro dp
  induction dp with
  | zero => intro Z node h; exact h
  | succ k ih =>
    intro Z node h
    obtain ⟨h1, h2, h3⟩ := id h
    simp only [cbZ]
    split
    · have := tkP_b (b := b) h1 (c := 44) (by decide)
      exact ⟨this.2.1, by simp only [zTo, zFirst]; omega, fun j hj => by simp only [zTo, zFirst]; exact h3 j hj⟩
    · split
      · next ht =>
        have := tkP_b (b := b) h1 (c := 41) (by decide)
        have t3 := this.2.2 ht
        exact ih _ _ ⟨by simp only [zAdd, zTo]; omega, by simp only [zAdd, zTo]; omega, fun j hj => by simp only [zAdd, zTo]; exact h3 j (by omega)⟩
      · have := tkP_b (b := b) h1 (c := 41) (by decide)
        exact ⟨by simp only [zTo]; omega, by simp only [zTo]; omega, fun j hj => by simp only [zTo]; exact h3 j hj⟩
section S48
variable {S : tmS} {L : Nat → Nat → Int64}
abbrev CbPost (S : tmS) (I : Nat → Nat → Int) (L : Nat → Nat → Int64) (res : Bool × Nat × ZS) : Option tmV → tmH → Prop := fun q h' => ∃ I', q = some (tI (if res.1 = true then 1 else 0)) ∧ h' = (S, I', L) ∧ TxFr I I' ∧ ZH I' res.2.1 res.2.2
theorem atP_ZH {I : Nat → Nat → Int} {dp : Nat} {Z : ZS} (h : ZH I dp Z) (p : Nat) : ZH (atP I p) dp (zTo Z p) ∧ TxFr I (atP I p) := by
  obtain ⟨rfl, h2, h3, h4⟩ := h
  refine ⟨⟨?_, ?_, ?_, ?_⟩, ⟨fun a a1 _ _ _ _ _ _ _ => vup_n a1, fun k _ k2 => by unfold atP; rw [vup_s, vup_n k2], fun k _ => by unfold atP; rw [vup_n (by decide)]⟩⟩
  · simp (disch := omega) only [zOf, zTo, atP, vup_n, vup_s, Int.toNat_natCast]
  · unfold atP; rw [vup_n (by decide)]; exact h2
  · unfold atP; rw [vup_s, vup_s]; rfl
  · unfold atP; rw [vup_s, vup_n (by decide)]; exact h4
set_option maxRecDepth 20000 in
set_option maxHeartbeats 2000000 in
theorem close_loop (hL : LX S) {n : Nat} (hn1 : n ≤ 120) (part : Int) : ∀ (dp : Nat) (I : Nat → Nat → Int) (Z : ZS) (node : Int) (x y : Option tmV), I 155 1 = (n : Int) → ZH I dp Z → ZI n dp Z → inR node →
    tmW kX9_closeBehind 3 0 0 2 [some (tR 155), some (tI part), some (tI node), x, y] [] (S, I, L) (CbPost S I L (cbZ (I 156) n dp Z node)) := by
  intro dp
  have o155 := oX155 hL
  have r155_0 := rX155_0 hL
  have r155_2 := rX155_2 hL
  have r155_3 := rX155_3 hL
  have r155_4 := rX155_4 hL
  have r155_5 := rX155_5 hL
  have r155_6 := rX155_6 hL
  have o156 := oX156 hL
  have o157 := oX157 hL
  have r157_2 := rX157_2 hL
  have r157_3 := rX157_3 hL
  have r157_4 := rX157_4 hL
  have r157_5 := rX157_5 hL
  have o158 := oX158 hL
  have o159 := oX159 hL
  have o160 := oX160 hL
  have o161 := oX161 hL
  have o162 := oX162 hL
  have o163 := oX163 hL
  have hpat : LPat S 157 120 := ⟨o157, r157_2, r157_3, r157_4, r157_5, o158, o159, o160, o161⟩
  induction dp with
  | zero =>
    intro I Z node x y hn hz hi hnd
    obtain ⟨z1, z2, z3, z4⟩ := id hz
    refine wa_aload_n dX9_closeBehind_2 rfl ?_
    refine wt_getI dX9_closeBehind_3 FX9_34 (by assumption) ?_
    try try rw [z4]
    refine wa_if_le 132 dX9_closeBehind_6 (by decide) (by exact ⟨by omega, by omega⟩) (fun c_6 => ?_) (fun c_6 => ?_)
    · refine wa_iconst dX9_closeBehind_132 ?_
      refine wa_zreturn dX9_closeBehind_133 rfl (by first | exact Or.inl rfl | exact Or.inr rfl) ?_
      exact ⟨I, rfl, rfl, TxFr.rfl', hz⟩
    · omega
  | succ k ih =>
    intro I Z node x y hn hz hi hnd
    obtain ⟨rfl, z2, z3, z4⟩ := id hz
    obtain ⟨i1, i2, i3⟩ := id hi
    have hp : I 155 8 = (((I 155 8).toNat : Nat) : Int) := z3
    have hsz : I 157 0 = (((I 157 0).toNat : Nat) : Int) := z2
    have i1' : (I 155 8).toNat ≤ n := i1
    have i2' : (I 157 0).toNat + (k + 1) ≤ (I 155 8).toNat := i2
    have i3' : ∀ j, j < k + 1 → 4 ≤ I 162 j ∧ I 162 j ≤ 6 := i3
    refine wt_ir (fun hI => ?_)
    by_cases hA : I 162 k = 6 ∧ I 163 k = -1
    · have hcb : cbZ (I 156) n (k + 1) (zOf I) node = (decide (tkB (I 156) n (I 155 8).toNat 44), k + 1, zTo (zFirst (zOf I) k node) (tkP (I 156) n (I 155 8).toNat 44)) := by
        simp only [cbZ]; rw [if_pos (show (zOf I).2.2.2.2.2.1 k = 6 ∧ (zOf I).2.2.2.2.2.2.1 k = -1 from hA)]; rfl
      rw [hcb]
      generalize hJ : va_up I 163 (va_up (I 163) k node) = J
      have gJ : ∀ a, a ≠ 163 → J a = I a := fun a ha => by rw [← hJ]; exact vup_n ha
      have hzJ : ZH J (k + 1) (zFirst (zOf I) k node) := by
        refine ⟨?_, by rw [gJ 157 (by decide)]; exact z2, by rw [gJ 155 (by decide)]; exact z3, by rw [gJ 155 (by decide)]; exact z4⟩
        rw [← hJ]
        simp (disch := omega) only [zOf, zFirst, vup_n, vup_s]
      have hfJ : TxFr I J := ⟨fun a _ _ _ _ _ _ _ a8 => gJ a a8, fun q _ _ => by rw [gJ 155 (by decide)], fun q _ => by rw [gJ 157 (by decide)]⟩
      have htk := c_take (I := J) (L := L) hL (n := n) (p := (I 155 8).toNat) (by rw [gJ 155 (by decide)]; exact hn) hn1 (by rw [gJ 155 (by decide)]; exact hp) i1' 44 ⟨by decide, by decide⟩
      rw [gJ 156 (by decide)] at htk
      obtain ⟨w1, w2⟩ := atP_ZH hzJ (tkP (I 156) n (I 155 8).toNat 44)
      refine wa_aload_n dX9_closeBehind_2 rfl ?_
      refine wt_getI dX9_closeBehind_3 FX9_34 (by assumption) ?_
      try try rw [z4]
      refine wa_if_le 132 dX9_closeBehind_6 (by decide) (by first | exact hI _ _ | exact hnd | exact ⟨by omega, by omega⟩) (fun c_6 => ?_) (fun c_6 => ?_)
      · omega
      · refine wa_aload_n dX9_closeBehind_9 rfl ?_
        refine wt_getI dX9_closeBehind_10 FX9_34 (by assumption) ?_
        try try rw [z4]
        refine wa_iconst dX9_closeBehind_13 ?_
        refine wa_isub dX9_closeBehind_14 ?_
        refine wa_istore_n dX9_closeBehind_15 (by decide) ?_
        refine wa_aload_n dX9_closeBehind_16 rfl ?_
        refine wt_getR dX9_closeBehind_17 FX9_28 (by assumption) (by assumption) ?_
        refine wa_iload_n dX9_closeBehind_20 rfl ?_
        refine wt_iald k dX9_closeBehind_21 (by assumption) (by omega) (by omega) ?_
        try try rw [z4]
        refine wa_bipush dX9_closeBehind_22 rfl ?_
        refine wa_icmp_ne 51 dX9_closeBehind_24 (by decide) (by first | exact hI _ _ | exact hnd | exact ⟨by omega, by omega⟩) (by first | exact hI _ _ | exact hnd | exact ⟨by omega, by omega⟩) (fun c_24 => ?_) (fun c_24 => ?_)
        · exact absurd hA.1 c_24
        · refine wa_aload_n dX9_closeBehind_27 rfl ?_
          refine wt_getR dX9_closeBehind_28 FX9_31 (by assumption) (by assumption) ?_
          refine wa_iload_n dX9_closeBehind_31 rfl ?_
          refine wt_iald k dX9_closeBehind_32 (by assumption) (by omega) (by omega) ?_
          try try rw [z4]
          refine wa_iconst dX9_closeBehind_33 ?_
          refine wa_icmp_ne 51 dX9_closeBehind_34 (by decide) (by first | exact hI _ _ | exact hnd | exact ⟨by omega, by omega⟩) (by first | exact hI _ _ | exact hnd | exact ⟨by omega, by omega⟩) (fun c_34 => ?_) (fun c_34 => ?_)
          · exact absurd hA.2 c_34
          · refine wa_aload_n dX9_closeBehind_37 rfl ?_
            refine wt_getR dX9_closeBehind_38 FX9_31 (by assumption) (by assumption) ?_
            refine wa_iload_n dX9_closeBehind_41 rfl ?_
            refine wa_iload_n dX9_closeBehind_42 rfl ?_
            refine wt_iast k dX9_closeBehind_43 (by assumption) (by omega) (by omega) (by first | exact hI _ _ | exact hnd | exact ⟨by omega, by omega⟩) ?_
            rw [hJ]
            refine wa_aload_n dX9_closeBehind_44 rfl ?_
            refine wa_bipush dX9_closeBehind_45 rfl ?_
            refine wa_callVf (ci := 9) dX9_closeBehind_47 KX9_take LX9_76 ⟨_, _, rfl, by decide⟩ o155 (htk) (by decide) rfl rfl (Nat.le_of_ble_eq_true rfl) rfl rfl ?_
            refine wa_zreturn dX9_closeBehind_50 rfl (by split <;> first | exact Or.inl rfl | exact Or.inr rfl) ?_
            refine ⟨_, ?_, rfl, hfJ.trans w2, w1⟩
            simp only [decide_eq_true_eq]
    · have htk := c_take (I := I) (L := L) hL hn hn1 hp i1' 41 ⟨by decide, by decide⟩
      have hb := tkP_b (b := I 156) i1' (c := 41) (by decide)
      obtain ⟨w1, w2⟩ := atP_ZH hz (tkP (I 156) n (I 155 8).toNat 41)
      generalize hJ : atP I (tkP (I 156) n (I 155 8).toNat 41) = J at htk w1 w2
      have gJ : ∀ a, a ≠ 155 → J a = I a := fun a ha => by rw [← hJ]; exact vup_n ha
      have rest : tmW kX9_closeBehind 3 0 0 51 [some (tR 155), some (tI part), some (tI node), some (tI k), y] [] (S, I, L) (CbPost S I L (cbZ (I 156) n (k + 1) (zOf I) node)) := by
        by_cases ht : tkB (I 156) n (I 155 8).toNat 41
        · rw [if_pos ht] at htk
          have hsz120 : (I 157 0).toNat < 120 := by have := hb.2.2 ht; omega
          have hcb : ∀ a b : Int, a = (if I 162 k = 6 then I 163 k else node) → b = (if I 162 k = 6 then node else -1) → cbZ (I 156) n (k + 1) (zOf I) node = cbZ (I 156) n k (zAdd (zTo (zOf I) (tkP (I 156) n (I 155 8).toNat 41)) (I 162 k) a b) (((I 157 0).toNat : Nat) : Int) := by
            intro a b ha hb'
            simp only [cbZ]
            rw [if_neg (show ¬ ((zOf I).2.2.2.2.2.1 k = 6 ∧ (zOf I).2.2.2.2.2.2.1 k = -1) from hA), if_pos (show tkB (I 156) n (zOf I).2.2.2.2.2.2.2 41 from ht), ha, hb']
            rfl
          have onw : ∀ (a b : Int) (yy : Option tmV), a = (if I 162 k = 6 then I 163 k else node) → b = (if I 162 k = 6 then node else -1) → inR a → inR b → tmW kX9_closeBehind 3 0 0 115 [some (tR 155), some (tI part), some (tI node), some (tI k), yy] [tI b, tI a, tI (I 162 k), tR 157] (S, J, L) (CbPost S I L (cbZ (I 156) n (k + 1) (zOf I) node)) := by
            intro a b yy ha hb' har hbr
            rw [hcb a b ha hb']
            have hs6 := i3' k (by omega)
            have hpa := c_Padd (I := J) (L := L) hpat (sz := (I 157 0).toNat) (by rw [gJ 157 (by decide)]; exact hsz) hsz120 (Nat.le_refl _) (I 162 k) a b ⟨by omega, by omega⟩ har hbr
            have j7 : tmPadd J 157 (I 157 0).toNat (I 162 k) a b 155 7 = ((k + 1 : Nat) : Int) := by
              unfold tmPadd
              simp (disch := omega) only [vup_n]
              exact w1.2.2.2
            generalize hK : tmPadd J 157 (I 157 0).toNat (I 162 k) a b = K at hpa j7
            have e158 : K 158 = va_up (I 158) (I 157 0).toNat (I 162 k) := by rw [← hK]; unfold tmPadd; simp (disch := omega) only [vup_n, vup_s]; rw [gJ 158 (by decide)]
            have e159 : K 159 = va_up (I 159) (I 157 0).toNat a := by rw [← hK]; unfold tmPadd; simp (disch := omega) only [vup_n, vup_s]; rw [gJ 159 (by decide)]
            have e160 : K 160 = va_up (I 160) (I 157 0).toNat b := by rw [← hK]; unfold tmPadd; simp (disch := omega) only [vup_n, vup_s]; rw [gJ 160 (by decide)]
            have e161 : K 161 = va_up (I 161) (I 157 0).toNat (zStage (I 157 0).toNat (I 161) (I 162 k) a b) := by rw [← hK]; unfold tmPadd zStage; simp (disch := omega) only [vup_n, vup_s, Nat.reduceAdd]; rw [gJ 161 (by decide)]
            have e157 : K 157 = va_up (I 157) 0 (((I 157 0).toNat + 1 : Nat) : Int) := by rw [← hK]; unfold tmPadd; simp (disch := omega) only [vup_n, vup_s]; rw [gJ 157 (by decide)]
            have eK : ∀ q, q ≠ 157 → q ≠ 158 → q ≠ 159 → q ≠ 160 → q ≠ 161 → K q = J q := fun q q1 q2 q3 q4 q5 => by rw [← hK]; unfold tmPadd; simp (disch := assumption) only [vup_n]
            generalize hV : va_up K 155 (va_up (K 155) 7 (k : Int)) = V
            have gV : ∀ q, q ≠ 155 → V q = K q := fun q hq => by rw [← hV]; exact vup_n hq
            have v8 : V 155 8 = ((tkP (I 156) n (I 155 8).toNat 41 : Nat) : Int) := by rw [← hV, vup_s, vup_n (by decide), eK 155 (by decide) (by decide) (by decide) (by decide) (by decide)]; exact w1.2.2.1
            have v7 : V 155 7 = (k : Int) := by rw [← hV, vup_s, vup_s]
            have vo : ∀ q, q ≠ 7 → V 155 q = J 155 q := fun q hq => by rw [← hV, vup_s, vup_n hq, eK 155 (by decide) (by decide) (by decide) (by decide) (by decide)]
            have v162 : V 162 = I 162 := by rw [gV 162 (by decide), eK 162 (by decide) (by decide) (by decide) (by decide) (by decide), gJ 162 (by decide)]
            have v163 : V 163 = I 163 := by rw [gV 163 (by decide), eK 163 (by decide) (by decide) (by decide) (by decide) (by decide), gJ 163 (by decide)]
            have v156 : V 156 = I 156 := by rw [gV 156 (by decide), eK 156 (by decide) (by decide) (by decide) (by decide) (by decide), gJ 156 (by decide)]
            have v157 : V 157 0 = (((I 157 0).toNat + 1 : Nat) : Int) := by rw [gV 157 (by decide), e157, vup_s]
            have hzV : ZH V k (zAdd (zTo (zOf I) (tkP (I 156) n (I 155 8).toNat 41)) (I 162 k) a b) := by
              refine ⟨?_, v157, v8, v7⟩
              unfold zOf
              rw [v157, v8, v162, v163, gV 158 (by decide), gV 159 (by decide), gV 160 (by decide), gV 161 (by decide), e158, e159, e160, e161]
              rfl
            have hfV : TxFr I V := by
              refine w2.trans ⟨fun q q1 q2 q3 q4 q5 q6 q7 q8 => ?_, fun q q1 q2 => vo q q1, fun q q1 => ?_⟩
              · rw [gV q q1, eK q q2 q3 q4 q5 q6]
              · rw [gV 157 (by decide), e157, vup_n q1, gJ 157 (by decide)]
            have hiV : ZI n k (zAdd (zTo (zOf I) (tkP (I 156) n (I 155 8).toNat 41)) (I 162 k) a b) := by
              have := hb.2.2 ht
              refine ⟨hb.2.1, ?_, fun j hj => i3' j (by omega)⟩
              show (I 157 0).toNat + 1 + k ≤ tkP (I 156) n (I 155 8).toNat 41
              omega
            have nx := fun yy => ih V _ (((I 157 0).toNat : Nat) : Int) (some (tI k)) yy (by rw [vo 1 (by decide), w2.2.1 1 (by decide) (by decide)]; exact hn) hzV hiV ⟨by omega, by omega⟩
            rw [v156] at nx
            refine wa_callVf (ci := 2) dX9_closeBehind_115 KX2_add LX9_127 ⟨_, _, rfl, by decide⟩ o157 (hpa) (by decide) rfl rfl (Nat.le_of_ble_eq_true rfl) rfl rfl ?_
            refine wa_istore_n dX9_closeBehind_118 (by decide) ?_
            refine wa_aload_n dX9_closeBehind_119 rfl ?_
            refine wa_dup dX9_closeBehind_120 rfl ?_
            refine wt_getI dX9_closeBehind_121 FX9_34 (by assumption) ?_
            try try rw [j7]
            refine wa_iconst dX9_closeBehind_124 ?_
            refine wa_isub dX9_closeBehind_125 ?_
            refine wt_putI dX9_closeBehind_126 FX9_34 (WX9_7 _ _) (by assumption) (by exact ⟨by omega, by omega⟩) ?_
            refine wa_goto 2 dX9_closeBehind_129 (by decide) ?_
            rw [show ((k + 1 : Nat) : Int) - 1 = (k : Int) by omega, hV]
            refine (nx _).wk ?_
            rintro q h'' ⟨I3, r1, r2, r3, r4⟩
            exact ⟨I3, r1, r2, hfV.trans r3, r4⟩
          have j162 : J 162 = I 162 := gJ 162 (by decide)
          have j163 : J 163 = I 163 := gJ 163 (by decide)
          by_cases h6 : I 162 k = 6
          · have fin := onw (I 163 k) node (some (tI 1)) (by rw [if_pos h6]) (by rw [if_pos h6]) (hI _ _) hnd
            refine wa_aload_n dX9_closeBehind_51 rfl ?_
            refine wa_bipush dX9_closeBehind_52 rfl ?_
            refine wa_callVf (ci := 9) dX9_closeBehind_54 KX9_take LX9_76 ⟨_, _, rfl, by decide⟩ o155 (htk) (by decide) rfl rfl (Nat.le_of_ble_eq_true rfl) rfl rfl ?_
            refine wa_if_ne 62 dX9_closeBehind_57 (by decide) (by first | exact hI _ _ | exact hnd | exact ⟨by omega, by omega⟩) (fun c_57 => ?_) (fun c_57 => ?_)
            · refine wa_aload_n dX9_closeBehind_62 rfl ?_
              refine wt_getR dX9_closeBehind_63 FX9_28 (by assumption) (by assumption) ?_
              refine wa_iload_n dX9_closeBehind_66 rfl ?_
              refine wt_iald k dX9_closeBehind_67 (by assumption) rfl (by omega) ?_
              try first | rw [j162] | rw [j163] | skip
              refine wa_bipush dX9_closeBehind_68 rfl ?_
              refine wa_icmp_ne 77 dX9_closeBehind_70 (by decide) (by first | exact hI _ _ | exact hnd | exact ⟨by omega, by omega⟩) (by first | exact hI _ _ | exact hnd | exact ⟨by omega, by omega⟩) (fun c_70 => ?_) (fun c_70 => ?_)
              · exact absurd h6 c_70
              · refine wa_iconst dX9_closeBehind_73 ?_
                refine wa_goto 78 dX9_closeBehind_74 (by decide) ?_
                refine wa_istore dX9_closeBehind_78 (by decide) ?_
                refine wa_aload_n dX9_closeBehind_80 rfl ?_
                refine wt_getR dX9_closeBehind_81 FX9_24 (by assumption) (by assumption) ?_
                refine wa_aload_n dX9_closeBehind_84 rfl ?_
                refine wt_getR dX9_closeBehind_85 FX9_28 (by assumption) (by assumption) ?_
                refine wa_iload_n dX9_closeBehind_88 rfl ?_
                refine wt_iald k dX9_closeBehind_89 (by assumption) rfl (by omega) ?_
                try first | rw [j162] | rw [j163] | skip
                refine wa_iload dX9_closeBehind_90 rfl ?_
                refine wa_if_eq 104 dX9_closeBehind_92 (by decide) (by first | exact hI _ _ | exact hnd | exact ⟨by omega, by omega⟩) (fun c_92 => ?_) (fun c_92 => ?_)
                · omega
                · refine wa_aload_n dX9_closeBehind_95 rfl ?_
                  refine wt_getR dX9_closeBehind_96 FX9_31 (by assumption) (by assumption) ?_
                  refine wa_iload_n dX9_closeBehind_99 rfl ?_
                  refine wt_iald k dX9_closeBehind_100 (by assumption) rfl (by omega) ?_
                  try first | rw [j162] | rw [j163] | skip
                  refine wa_goto 105 dX9_closeBehind_101 (by decide) ?_
                  refine wa_iload dX9_closeBehind_105 rfl ?_
                  refine wa_if_eq 114 dX9_closeBehind_107 (by decide) (by first | exact hI _ _ | exact hnd | exact ⟨by omega, by omega⟩) (fun c_107 => ?_) (fun c_107 => ?_)
                  · omega
                  · refine wa_iload_n dX9_closeBehind_110 rfl ?_
                    refine wa_goto 115 dX9_closeBehind_111 (by decide) ?_
                    exact fin
            · omega
          · have fin := onw node (-1) (some (tI 0)) (by rw [if_neg h6]) (by rw [if_neg h6]) hnd ⟨by decide, by decide⟩
            refine wa_aload_n dX9_closeBehind_51 rfl ?_
            refine wa_bipush dX9_closeBehind_52 rfl ?_
            refine wa_callVf (ci := 9) dX9_closeBehind_54 KX9_take LX9_76 ⟨_, _, rfl, by decide⟩ o155 (htk) (by decide) rfl rfl (Nat.le_of_ble_eq_true rfl) rfl rfl ?_
            refine wa_if_ne 62 dX9_closeBehind_57 (by decide) (by first | exact hI _ _ | exact hnd | exact ⟨by omega, by omega⟩) (fun c_57 => ?_) (fun c_57 => ?_)
            · refine wa_aload_n dX9_closeBehind_62 rfl ?_
              refine wt_getR dX9_closeBehind_63 FX9_28 (by assumption) (by assumption) ?_
              refine wa_iload_n dX9_closeBehind_66 rfl ?_
              refine wt_iald k dX9_closeBehind_67 (by assumption) rfl (by omega) ?_
              try first | rw [j162] | rw [j163] | skip
              refine wa_bipush dX9_closeBehind_68 rfl ?_
              refine wa_icmp_ne 77 dX9_closeBehind_70 (by decide) (by first | exact hI _ _ | exact hnd | exact ⟨by omega, by omega⟩) (by first | exact hI _ _ | exact hnd | exact ⟨by omega, by omega⟩) (fun c_70 => ?_) (fun c_70 => ?_)
              · refine wa_iconst dX9_closeBehind_77 ?_
                refine wa_istore dX9_closeBehind_78 (by decide) ?_
                refine wa_aload_n dX9_closeBehind_80 rfl ?_
                refine wt_getR dX9_closeBehind_81 FX9_24 (by assumption) (by assumption) ?_
                refine wa_aload_n dX9_closeBehind_84 rfl ?_
                refine wt_getR dX9_closeBehind_85 FX9_28 (by assumption) (by assumption) ?_
                refine wa_iload_n dX9_closeBehind_88 rfl ?_
                refine wt_iald k dX9_closeBehind_89 (by assumption) rfl (by omega) ?_
                try first | rw [j162] | rw [j163] | skip
                refine wa_iload dX9_closeBehind_90 rfl ?_
                refine wa_if_eq 104 dX9_closeBehind_92 (by decide) (by first | exact hI _ _ | exact hnd | exact ⟨by omega, by omega⟩) (fun c_92 => ?_) (fun c_92 => ?_)
                · refine wa_iload_n dX9_closeBehind_104 rfl ?_
                  refine wa_iload dX9_closeBehind_105 rfl ?_
                  refine wa_if_eq 114 dX9_closeBehind_107 (by decide) (by first | exact hI _ _ | exact hnd | exact ⟨by omega, by omega⟩) (fun c_107 => ?_) (fun c_107 => ?_)
                  · refine wa_iconst dX9_closeBehind_114 ?_
                    exact fin
                  · omega
                · omega
              · exact absurd c_70 h6
            · omega
        · rw [if_neg ht] at htk
          have hcb : cbZ (I 156) n (k + 1) (zOf I) node = (false, k + 1, zTo (zOf I) (tkP (I 156) n (I 155 8).toNat 41)) := by
            simp only [cbZ]
            rw [if_neg (show ¬ ((zOf I).2.2.2.2.2.1 k = 6 ∧ (zOf I).2.2.2.2.2.2.1 k = -1) from hA), if_neg (show ¬ tkB (I 156) n (zOf I).2.2.2.2.2.2.2 41 from ht)]
            rfl
          rw [hcb]
          refine wa_aload_n dX9_closeBehind_51 rfl ?_
          refine wa_bipush dX9_closeBehind_52 rfl ?_
          refine wa_callVf (ci := 9) dX9_closeBehind_54 KX9_take LX9_76 ⟨_, _, rfl, by decide⟩ o155 (htk) (by decide) rfl rfl (Nat.le_of_ble_eq_true rfl) rfl rfl ?_
          refine wa_if_ne 62 dX9_closeBehind_57 (by decide) (by exact ⟨by omega, by omega⟩) (fun c_57 => ?_) (fun c_57 => ?_)
          · omega
          · refine wa_iconst dX9_closeBehind_60 ?_
            refine wa_zreturn dX9_closeBehind_61 rfl (by first | exact Or.inl rfl | exact Or.inr rfl) ?_
            exact ⟨J, rfl, rfl, w2, w1⟩
      refine wa_aload_n dX9_closeBehind_2 rfl ?_
      refine wt_getI dX9_closeBehind_3 FX9_34 (by assumption) ?_
      try try rw [z4]
      refine wa_if_le 132 dX9_closeBehind_6 (by decide) (by first | exact hI _ _ | exact hnd | exact ⟨by omega, by omega⟩) (fun c_6 => ?_) (fun c_6 => ?_)
      · omega
      · refine wa_aload_n dX9_closeBehind_9 rfl ?_
        refine wt_getI dX9_closeBehind_10 FX9_34 (by assumption) ?_
        try try rw [z4]
        refine wa_iconst dX9_closeBehind_13 ?_
        refine wa_isub dX9_closeBehind_14 ?_
        refine wa_istore_n dX9_closeBehind_15 (by decide) ?_
        refine wa_aload_n dX9_closeBehind_16 rfl ?_
        refine wt_getR dX9_closeBehind_17 FX9_28 (by assumption) (by assumption) ?_
        refine wa_iload_n dX9_closeBehind_20 rfl ?_
        refine wt_iald k dX9_closeBehind_21 (by assumption) (by omega) (by omega) ?_
        try try rw [z4]
        refine wa_bipush dX9_closeBehind_22 rfl ?_
        refine wa_icmp_ne 51 dX9_closeBehind_24 (by decide) (by first | exact hI _ _ | exact hnd | exact ⟨by omega, by omega⟩) (by first | exact hI _ _ | exact hnd | exact ⟨by omega, by omega⟩) (fun c_24 => ?_) (fun c_24 => ?_)
        · rw [show ((k + 1 : Nat) : Int) - 1 = (k : Int) by omega]
          exact rest
        · refine wa_aload_n dX9_closeBehind_27 rfl ?_
          refine wt_getR dX9_closeBehind_28 FX9_31 (by assumption) (by assumption) ?_
          refine wa_iload_n dX9_closeBehind_31 rfl ?_
          refine wt_iald k dX9_closeBehind_32 (by assumption) (by omega) (by omega) ?_
          try try rw [z4]
          refine wa_iconst dX9_closeBehind_33 ?_
          refine wa_icmp_ne 51 dX9_closeBehind_34 (by decide) (by first | exact hI _ _ | exact hnd | exact ⟨by omega, by omega⟩) (by first | exact hI _ _ | exact hnd | exact ⟨by omega, by omega⟩) (fun c_34 => ?_) (fun c_34 => ?_)
          · rw [show ((k + 1 : Nat) : Int) - 1 = (k : Int) by omega]
            exact rest
          · exact absurd ⟨c_24, c_34⟩ hA
end S48
