/-! ===== 49: Text.readSide ===== -/
def zOpen (Z : ZS) (k : Nat) (s : Int) : ZS := (Z.1, Z.2.1, Z.2.2.1, Z.2.2.2.1, Z.2.2.2.2.1, va_up Z.2.2.2.2.2.1 k s, va_up Z.2.2.2.2.2.2.1 k (-1), Z.2.2.2.2.2.2.2)
/-- a side is read, LETTERS of may -/
def rdZ (b : Nat → Int) (n may : Nat) : Nat → Nat → ZS → Bool × Nat × ZS
  | 0, dp, Z => (false, dp, Z)
  | k + 1, dp, Z =>
    if sgOf (byt b n (skp b n Z.2.2.2.2.2.2.2)) = -1 ∨ (7 ≤ sgOf (byt b n (skp b n Z.2.2.2.2.2.2.2)) ∧ may.testBit (sgOf (byt b n (skp b n Z.2.2.2.2.2.2.2)) - 7).toNat = false) then (false, dp, zTo Z (skp b n Z.2.2.2.2.2.2.2))
    else if 4 ≤ sgOf (byt b n (skp b n Z.2.2.2.2.2.2.2)) ∧ sgOf (byt b n (skp b n Z.2.2.2.2.2.2.2)) ≤ 6 then
      if tkB b n (skp b n Z.2.2.2.2.2.2.2 + 1) 40 then rdZ b n may k (dp + 1) (zOpen (zTo Z (tkP b n (skp b n Z.2.2.2.2.2.2.2 + 1) 40)) dp (sgOf (byt b n (skp b n Z.2.2.2.2.2.2.2))))
      else (false, dp, zTo Z (tkP b n (skp b n Z.2.2.2.2.2.2.2 + 1) 40))
    else
      let r := cbZ b n dp (zAdd (zTo Z (skp b n Z.2.2.2.2.2.2.2 + 1)) (sgOf (byt b n (skp b n Z.2.2.2.2.2.2.2))) (-1) (-1)) (Z.1 : Int)
      if r.1 = false then r else if r.2.1 = 0 then r else rdZ b n may k r.2.1 r.2.2
theorem sgOf_b (c : Int) : -1 ≤ sgOf c ∧ sgOf c ≤ 9 := by
  unfold sgOf
  split
  · omega
  · split
    · omega
    · split <;> omega
theorem sgOf_in {b : Nat → Int} {n p : Nat} (h : sgOf (byt b n p) ≠ -1) : p < n := by
  by_cases q : p < n
  · exact q
  · exact absurd (by unfold byt; rw [if_neg q]; decide) h
section S49
variable {S : tmS} {L : Nat → Nat → Int64}
theorem c_closeBehind (hL : LX S) {n : Nat} (hn1 : n ≤ 120) (part : Int) {dp : Nat} {I : Nat → Nat → Int} {Z : ZS} (hn : I 155 1 = (n : Int)) (hz : ZH I dp Z) (hi : ZI n dp Z) (hp : inR part) : tmC yX9_closeBehind kX9_closeBehind 3 0 0 [tR 155, tI part] (S, I, L) (CbPost S I L (cbZ (I 156) n dp Z part)) := by
  refine tmC.mk (lv := [some (tR 155), some (tI part), none, none, none]) 3 ⟨rfl, by decide +kernel, by decide⟩ rfl rfl ?_
  have h0 := close_loop (L := L) hL hn1 part dp I Z part none none hn hz hi hp
  refine wa_iload_n dX9_closeBehind_0 rfl ?_
  refine wa_istore_n dX9_closeBehind_1 (by decide) ?_
  exact h0
theorem padd_ZH {J : Nat → Nat → Int} {dp : Nat} {Z : ZS} (h : ZH J dp Z) (s a b : Int) : ZH (tmPadd J 157 Z.1 s a b) dp (zAdd Z s a b) ∧ TxFr J (tmPadd J 157 Z.1 s a b) := by
  obtain ⟨rfl, h2, h3, h4⟩ := h
  generalize hsz : (zOf J).1 = sz at h2
  have hsz' : (J 157 0).toNat = sz := hsz
  generalize hK : tmPadd J 157 sz s a b = K
  have e158 : K 158 = va_up (J 158) sz s := by rw [← hK]; unfold tmPadd; simp (disch := omega) only [vup_n, vup_s]
  have e159 : K 159 = va_up (J 159) sz a := by rw [← hK]; unfold tmPadd; simp (disch := omega) only [vup_n, vup_s]
  have e160 : K 160 = va_up (J 160) sz b := by rw [← hK]; unfold tmPadd; simp (disch := omega) only [vup_n, vup_s]
  have e161 : K 161 = va_up (J 161) sz (zStage sz (J 161) s a b) := by rw [← hK]; unfold tmPadd zStage; simp (disch := omega) only [vup_n, vup_s, Nat.reduceAdd]
  have e157 : K 157 = va_up (J 157) 0 ((sz + 1 : Nat) : Int) := by rw [← hK]; unfold tmPadd; simp (disch := omega) only [vup_n, vup_s]
  have eK : ∀ q, q ≠ 157 → q ≠ 158 → q ≠ 159 → q ≠ 160 → q ≠ 161 → K q = J q := fun q q1 q2 q3 q4 q5 => by rw [← hK]; unfold tmPadd; simp (disch := assumption) only [vup_n]
  have k155 := eK 155 (by decide) (by decide) (by decide) (by decide) (by decide)
  have k162 := eK 162 (by decide) (by decide) (by decide) (by decide) (by decide)
  have k163 := eK 163 (by decide) (by decide) (by decide) (by decide) (by decide)
  refine ⟨⟨?_, by rw [e157, vup_s]; simp only [zAdd]; rw [hsz], by rw [k155]; exact h3, by rw [k155]; exact h4⟩, ⟨fun q _ q2 q3 q4 q5 q6 _ _ => eK q q2 q3 q4 q5 q6, fun q _ _ => by rw [k155], fun q q1 => by rw [e157, vup_n q1]⟩⟩
  unfold zOf
  rw [e157, e158, e159, e160, e161, k155, k162, k163, vup_s]
  simp only [zAdd, hsz', Int.toNat_natCast]
theorem rdBit : ∀ m, m < 8 → ∀ l, l < 3 → Int32.ofInt (m : Nat) >>> (Int32.ofInt (l : Nat) &&& 31) &&& Int32.ofInt 1 = Int32.ofInt (if m.testBit l then 1 else 0) := by decide
set_option maxRecDepth 20000 in
set_option maxHeartbeats 4000000 in
theorem side_loop (hL : LX S) {n : Nat} (hn1 : n ≤ 120) (may : Nat) (hmay : may < 8) : ∀ (k i : Nat) (I : Nat → Nat → Int) (dp : Nat) (Z : ZS) (x : Option tmV), i + k = 121 → I 155 1 = (n : Int) → ZH I dp Z → ZI n dp Z →
    tmW kX9_readSide 6 0 0 7 [some (tR 155), some (tI may), some (tI i), x] [] (S, I, L) (CbPost S I L (rdZ (I 156) n may k dp Z)) := by
  intro k
  have o155 := oX155 hL
  have r155_0 := rX155_0 hL
  have r155_2 := rX155_2 hL
  have r155_3 := rX155_3 hL
  have r155_4 := rX155_4 hL
  have r155_5 := rX155_5 hL
  have r155_6 := rX155_6 hL
  have o156 := oX156 hL
  have o157 := oX157 hL
  have r157_2 := rX157_2 hL
  have r157_3 := rX157_3 hL
  have r157_4 := rX157_4 hL
  have r157_5 := rX157_5 hL
  have o158 := oX158 hL
  have o159 := oX159 hL
  have o160 := oX160 hL
  have o161 := oX161 hL
  have o162 := oX162 hL
  have o163 := oX163 hL
  have hpat : LPat S 157 120 := ⟨o157, r157_2, r157_3, r157_4, r157_5, o158, o159, o160, o161⟩
  induction k with
  | zero =>
    intro i I dp Z x hik hn hz hi
    refine wa_iload_n dX9_readSide_7 rfl ?_
    refine wa_bipush dX9_readSide_8 rfl ?_
    refine wa_icmp_gt 119 dX9_readSide_10 (by decide) (by exact ⟨by omega, by omega⟩) (by exact ⟨by omega, by omega⟩) (fun c_10 => ?_) (fun c_10 => ?_)
    · refine wa_iconst dX9_readSide_119 ?_
      refine wa_zreturn dX9_readSide_120 rfl (by first | exact Or.inl rfl | exact Or.inr rfl) ?_
      exact ⟨I, rfl, rfl, TxFr.rfl', hz⟩
    · omega
  | succ k ih =>
    intro i I dp Z x hik hn hz hi
    obtain ⟨z1, z2, z3, z4⟩ := id hz
    obtain ⟨i1, i2, i3⟩ := id hi
    have hpk := c_peek (I := I) (L := L) hL hn hn1 z3 i1
    have hsk := skp_b (b := I 156) i1
    generalize hP : skp (I 156) n Z.2.2.2.2.2.2.2 = P at hpk hsk
    obtain ⟨w1, w2⟩ := atP_ZH hz P
    have hsb := sgOf_b (byt (I 156) n P)
    refine wt_ir (fun hI => ?_)
    have hbr : inR (byt (I 156) n P) := by
      unfold byt; split
      · exact hI _ _
      · exact ⟨by decide, by decide⟩
    have hsg := c_signOf (S := S) (I := atP I P) (L := L) (byt (I 156) n P) hbr
    have hPn : sgOf (byt (I 156) n P) ≠ -1 → P < n := sgOf_in
    generalize hs : sgOf (byt (I 156) n P) = s at hsg hsb hPn
    generalize hJ : atP I P = J at hpk w1 w2 hsg
    have hJn : J 155 1 = (n : Int) := by rw [w2.2.1 1 (by decide) (by decide)]; exact hn
    have hJ156 : J 156 = I 156 := w2.1 156 (by decide) (by decide) (by decide) (by decide) (by decide) (by decide) (by decide) (by decide)
    have hJ8 : J 155 8 = (P : Int) := w1.2.2.1
    have q1 : 7 ≤ s → Int32.ofInt (may : Nat) >>> (Int32.ofInt (s - 7) &&& 31) = Int32.ofInt ((may >>> (s - 7).toNat : Nat)) := fun h7 => by
      have := tm_set1 may hmay (s - 7).toNat (by omega)
      rw [show (((s - 7).toNat : Nat) : Int) = s - 7 by omega] at this
      exact this
    have q2 : 7 ≤ s → Int32.ofInt ((may >>> (s - 7).toNat : Nat)) &&& Int32.ofInt 1 = Int32.ofInt (if may.testBit (s - 7).toNat then 1 else 0) := fun h7 => tm_set2 may hmay (s - 7).toNat (by omega)
    by_cases hbad : s = -1 ∨ (7 ≤ s ∧ may.testBit (s - 7).toNat = false)
    · have hrd : rdZ (I 156) n may (k + 1) dp Z = (false, dp, zTo Z P) := by
        simp only [rdZ, hP, hs]; rw [if_pos hbad]
      rw [hrd]
      have q3 : 7 ≤ s → Int32.ofInt ((may >>> (s - 7).toNat : Nat)) &&& Int32.ofInt 1 = Int32.ofInt 0 := fun h7 => by
        rw [q2 h7]
        rcases hbad with h | ⟨_, h⟩
        · omega
        · rw [h]; rfl
      refine wa_iload_n dX9_readSide_7 rfl ?_
      refine wa_bipush dX9_readSide_8 rfl ?_
      refine wa_icmp_gt 119 dX9_readSide_10 (by decide) (by exact ⟨by omega, by omega⟩) (by exact ⟨by omega, by omega⟩) (fun c_10 => ?_) (fun c_10 => ?_)
      · omega
      · refine wa_aload_n dX9_readSide_13 rfl ?_
        refine wa_callVf (ci := 9) dX9_readSide_14 KX9_peek LX9_48 ⟨_, _, rfl, by decide⟩ o155 (hpk) (by decide) rfl rfl (Nat.le_of_ble_eq_true rfl) rfl rfl ?_
        refine wa_callSf dX9_readSide_17 KX9_signOf LX9_121 (hsg) (by decide) rfl rfl (Nat.le_of_ble_eq_true rfl) rfl rfl ?_
        refine wa_istore_n dX9_readSide_20 (by decide) ?_
        refine wa_iload_n dX9_readSide_21 rfl ?_
        refine wa_iconst dX9_readSide_22 ?_
        refine wa_icmp_eq 43 dX9_readSide_23 (by decide) (by exact ⟨by omega, by omega⟩) (by exact ⟨by omega, by omega⟩) (fun c_23 => ?_) (fun c_23 => ?_)
        · refine wa_iconst dX9_readSide_43 ?_
          refine wa_zreturn dX9_readSide_44 rfl (by first | exact Or.inl rfl | exact Or.inr rfl) ?_
          exact ⟨J, rfl, rfl, w2, w1⟩
        · refine wa_iload_n dX9_readSide_26 rfl ?_
          refine wa_bipush dX9_readSide_27 rfl ?_
          refine wa_icmp_lt 45 dX9_readSide_29 (by decide) (by exact ⟨by omega, by omega⟩) (by exact ⟨by omega, by omega⟩) (fun c_29 => ?_) (fun c_29 => ?_)
          · omega
          · refine wa_iload_n dX9_readSide_32 rfl ?_
            refine wa_iload_n dX9_readSide_33 rfl ?_
            refine wa_bipush dX9_readSide_34 rfl ?_
            refine wa_isub dX9_readSide_36 ?_
            refine wa_ishr dX9_readSide_37 (q1 (by omega)) ?_
            refine wa_iconst dX9_readSide_38 ?_
            refine wa_iand dX9_readSide_39 (q3 (by omega)) ?_
            refine wa_if_ne 45 dX9_readSide_40 (by decide) (by exact ⟨by omega, by omega⟩) (fun c_40 => ?_) (fun c_40 => ?_)
            · omega
            · refine wa_iconst dX9_readSide_43 ?_
              refine wa_zreturn dX9_readSide_44 rfl (by first | exact Or.inl rfl | exact Or.inr rfl) ?_
              exact ⟨J, rfl, rfl, w2, w1⟩
    · have hs1 : s ≠ -1 := fun h => hbad (Or.inl h)
      have hPn' := hPn hs1
      have q3 : 7 ≤ s → Int32.ofInt ((may >>> (s - 7).toNat : Nat)) &&& Int32.ofInt 1 = Int32.ofInt 1 := fun h7 => by
        rw [q2 h7]
        cases hb : may.testBit (s - 7).toNat with
        | true => rfl
        | false => exact absurd (Or.inr ⟨h7, hb⟩) hbad
      obtain ⟨y1, y2⟩ := atP_ZH w1 (P + 1)
      have y1' : ZH (atP J (P + 1)) dp (zTo Z (P + 1)) := y1
      generalize hK : atP J (P + 1) = K at y1' y2
      have hKe : va_up J 155 (va_up (J 155) 8 ((P : Int) + 1)) = K := by rw [← hK]; rfl
      have fK := w2.trans y2
      have hKn : K 155 1 = (n : Int) := by rw [fK.2.1 1 (by decide) (by decide)]; exact hn
      have hK156 : K 156 = I 156 := fK.1 156 (by decide) (by decide) (by decide) (by decide) (by decide) (by decide) (by decide) (by decide)
      have at45 : tmW kX9_readSide 6 0 0 45 [some (tR 155), some (tI may), some (tI i), some (tI s)] [] (S, J, L) (CbPost S I L (rdZ (I 156) n may (k + 1) dp Z)) := by
        by_cases hop : 4 ≤ s ∧ s ≤ 6
        · have htk := c_take (I := K) (L := L) hL hKn hn1 (p := P + 1) y1'.2.2.1 (by omega) 40 ⟨by decide, by decide⟩
          rw [hK156] at htk
          have htb := tkP_b (b := I 156) (n := n) (p := P + 1) (by omega) (c := 40) (by decide)
          obtain ⟨v1, v2⟩ := atP_ZH y1' (tkP (I 156) n (P + 1) 40)
          have v1' : ZH (atP K (tkP (I 156) n (P + 1) 40)) dp (zTo Z (tkP (I 156) n (P + 1) 40)) := v1
          generalize hT : atP K (tkP (I 156) n (P + 1) 40) = T at v1' v2 htk
          have fT := fK.trans v2
          by_cases htt : tkB (I 156) n (P + 1) 40
          · rw [if_pos htt] at htk
            have t3 := htb.2.2 htt
            have hrd : rdZ (I 156) n may (k + 1) dp Z = rdZ (I 156) n may k (dp + 1) (zOpen (zTo Z (tkP (I 156) n (P + 1) 40)) dp s) := by
              simp only [rdZ, hP, hs]; rw [if_neg hbad, if_pos hop, if_pos htt]
            rw [hrd]
            have hopn := c_open (I := T) (L := L) hL v1'.2.2.2 (by omega) s ⟨by omega, by omega⟩
            generalize hV : va_up (va_up (va_up T 162 (va_up (T 162) dp s)) 163 (va_up (T 163) dp (-1))) 155 (va_up (T 155) 7 ((dp + 1 : Nat) : Int)) = V at hopn
            have gV : ∀ a, a ≠ 162 → a ≠ 163 → a ≠ 155 → V a = T a := fun a a1 a2 a3 => by rw [← hV, vup_n a3, vup_n a2, vup_n a1]
            have g155 : V 155 = va_up (T 155) 7 ((dp + 1 : Nat) : Int) := by rw [← hV, vup_s]
            have g162 : V 162 = va_up (T 162) dp s := by rw [← hV, vup_n (by decide), vup_n (by decide), vup_s]
            have g163 : V 163 = va_up (T 163) dp (-1) := by rw [← hV, vup_n (by decide), vup_s]
            obtain ⟨c1, c2, c3, c4⟩ := id v1'
            have hzV : ZH V (dp + 1) (zOpen (zTo Z (tkP (I 156) n (P + 1) 40)) dp s) := by
              refine ⟨?_, by rw [gV 157 (by decide) (by decide) (by decide)]; exact c2, by rw [g155, vup_n (by decide)]; exact c3, by rw [g155, vup_s]⟩
              rw [← c1]
              unfold zOf
              rw [gV 157 (by decide) (by decide) (by decide), gV 158 (by decide) (by decide) (by decide), gV 159 (by decide) (by decide) (by decide), gV 160 (by decide) (by decide) (by decide), gV 161 (by decide) (by decide) (by decide), g155, g162, g163, vup_n (by decide)]
              rfl
            have hiV : ZI n (dp + 1) (zOpen (zTo Z (tkP (I 156) n (P + 1) 40)) dp s) := by
              refine ⟨htb.2.1, ?_, fun j hj => ?_⟩
              · show Z.1 + (dp + 1) ≤ tkP (I 156) n (P + 1) 40
                omega
              · show 4 ≤ va_up Z.2.2.2.2.2.1 dp s j ∧ va_up Z.2.2.2.2.2.1 dp s j ≤ 6
                by_cases z : j = dp
                · subst z; rw [vup_s]; exact hop
                · rw [vup_n z]; exact i3 j (by omega)
            have fV : TxFr I V := fT.trans ⟨fun a a1 _ _ _ _ _ a7 a8 => gV a a7 a8 a1, fun q q7 _ => by rw [g155, vup_n q7], fun q _ => by rw [gV 157 (by decide) (by decide) (by decide)]⟩
            have nx := ih (i + 1) V (dp + 1) _ (some (tI s)) (by omega) (by rw [fV.2.1 1 (by decide) (by decide)]; exact hn) hzV hiV
            rw [fV.1 156 (by decide) (by decide) (by decide) (by decide) (by decide) (by decide) (by decide) (by decide)] at nx
            refine wa_aload_n dX9_readSide_45 rfl ?_
            refine wa_dup dX9_readSide_46 rfl ?_
            refine wt_getI dX9_readSide_47 FX9_37 (by assumption) ?_
            try try rw [hJ8]
            refine wa_iconst dX9_readSide_50 ?_
            refine wa_iadd dX9_readSide_51 ?_
            refine wt_putI dX9_readSide_52 FX9_37 (WX9_8 _ _) (by assumption) (by exact ⟨by omega, by omega⟩) ?_
            rw [hKe]
            refine wa_iload_n dX9_readSide_55 rfl ?_
            refine wa_iconst dX9_readSide_56 ?_
            refine wa_icmp_lt 85 dX9_readSide_57 (by decide) (by exact ⟨by omega, by omega⟩) (by exact ⟨by omega, by omega⟩) (fun c_57 => ?_) (fun c_57 => ?_)
            · omega
            · refine wa_iload_n dX9_readSide_60 rfl ?_
              refine wa_bipush dX9_readSide_61 rfl ?_
              refine wa_icmp_gt 85 dX9_readSide_63 (by decide) (by exact ⟨by omega, by omega⟩) (by exact ⟨by omega, by omega⟩) (fun c_63 => ?_) (fun c_63 => ?_)
              · omega
              · refine wa_aload_n dX9_readSide_66 rfl ?_
                refine wa_bipush dX9_readSide_67 rfl ?_
                refine wa_callVf (ci := 9) dX9_readSide_69 KX9_take LX9_76 ⟨_, _, rfl, by decide⟩ o155 (htk) (by decide) rfl rfl (Nat.le_of_ble_eq_true rfl) rfl rfl ?_
                refine wa_if_eq 83 dX9_readSide_72 (by decide) (by exact ⟨by omega, by omega⟩) (fun c_72 => ?_) (fun c_72 => ?_)
                · omega
                · refine wa_aload_n dX9_readSide_75 rfl ?_
                  refine wa_iload_n dX9_readSide_76 rfl ?_
                  refine wa_callVf (ci := 9) dX9_readSide_77 KX9_open LX9_124 ⟨_, _, rfl, by decide⟩ o155 (hopn) (by decide) rfl rfl (Nat.le_of_ble_eq_true rfl) rfl rfl ?_
                  refine wa_if_ne 113 dX9_readSide_80 (by decide) (by exact ⟨by omega, by omega⟩) (fun c_80 => ?_) (fun c_80 => ?_)
                  · refine wa_iinc dX9_readSide_113 rfl (by decide) ?_
                    refine wa_goto 7 dX9_readSide_116 (by decide) ?_
                    refine nx.wk ?_
                    rintro q h'' ⟨I3, r1, r2, r3, r4⟩
                    exact ⟨I3, r1, r2, fV.trans r3, r4⟩
                  · omega
          · rw [if_neg htt] at htk
            have hrd : rdZ (I 156) n may (k + 1) dp Z = (false, dp, zTo Z (tkP (I 156) n (P + 1) 40)) := by
              simp only [rdZ, hP, hs]; rw [if_neg hbad, if_pos hop, if_neg htt]
            rw [hrd]
            refine wa_aload_n dX9_readSide_45 rfl ?_
            refine wa_dup dX9_readSide_46 rfl ?_
            refine wt_getI dX9_readSide_47 FX9_37 (by assumption) ?_
            try try rw [hJ8]
            refine wa_iconst dX9_readSide_50 ?_
            refine wa_iadd dX9_readSide_51 ?_
            refine wt_putI dX9_readSide_52 FX9_37 (WX9_8 _ _) (by assumption) (by exact ⟨by omega, by omega⟩) ?_
            rw [hKe]
            refine wa_iload_n dX9_readSide_55 rfl ?_
            refine wa_iconst dX9_readSide_56 ?_
            refine wa_icmp_lt 85 dX9_readSide_57 (by decide) (by exact ⟨by omega, by omega⟩) (by exact ⟨by omega, by omega⟩) (fun c_57 => ?_) (fun c_57 => ?_)
            · omega
            · refine wa_iload_n dX9_readSide_60 rfl ?_
              refine wa_bipush dX9_readSide_61 rfl ?_
              refine wa_icmp_gt 85 dX9_readSide_63 (by decide) (by exact ⟨by omega, by omega⟩) (by exact ⟨by omega, by omega⟩) (fun c_63 => ?_) (fun c_63 => ?_)
              · omega
              · refine wa_aload_n dX9_readSide_66 rfl ?_
                refine wa_bipush dX9_readSide_67 rfl ?_
                refine wa_callVf (ci := 9) dX9_readSide_69 KX9_take LX9_76 ⟨_, _, rfl, by decide⟩ o155 (htk) (by decide) rfl rfl (Nat.le_of_ble_eq_true rfl) rfl rfl ?_
                refine wa_if_eq 83 dX9_readSide_72 (by decide) (by exact ⟨by omega, by omega⟩) (fun c_72 => ?_) (fun c_72 => ?_)
                · refine wa_iconst dX9_readSide_83 ?_
                  refine wa_zreturn dX9_readSide_84 rfl (by first | exact Or.inl rfl | exact Or.inr rfl) ?_
                  exact ⟨T, rfl, rfl, fT, v1'⟩
                · omega
        · have hpa := c_Padd (I := K) (L := L) hpat (sz := Z.1) y1'.2.1 (by omega) (Nat.le_refl _) s (-1) (-1) ⟨by omega, by omega⟩ ⟨by decide, by decide⟩ ⟨by decide, by decide⟩
          obtain ⟨v1, v2⟩ := padd_ZH y1' s (-1) (-1)
          have v1' : ZH (tmPadd K 157 Z.1 s (-1) (-1)) dp (zAdd (zTo Z (P + 1)) s (-1) (-1)) := v1
          have v2' : TxFr K (tmPadd K 157 Z.1 s (-1) (-1)) := v2
          generalize hT : tmPadd K 157 Z.1 s (-1) (-1) = T at v1' v2' hpa
          have fT := fK.trans v2'
          have hiT : ZI n dp (zAdd (zTo Z (P + 1)) s (-1) (-1)) := by
            refine ⟨by show P + 1 ≤ n; omega, by show Z.1 + 1 + dp ≤ P + 1; omega, i3⟩
          have hcl := c_closeBehind (L := L) hL hn1 (Z.1 : Int) (by rw [fT.2.1 1 (by decide) (by decide)]; exact hn) v1' hiT ⟨by omega, by omega⟩
          rw [fT.1 156 (by decide) (by decide) (by decide) (by decide) (by decide) (by decide) (by decide) (by decide)] at hcl
          have hinv := cbZ_inv (b := I 156) dp _ (Z.1 : Int) hiT
          have hrd : rdZ (I 156) n may (k + 1) dp Z = (if (cbZ (I 156) n dp (zAdd (zTo Z (P + 1)) s (-1) (-1)) (Z.1 : Int)).1 = false then cbZ (I 156) n dp (zAdd (zTo Z (P + 1)) s (-1) (-1)) (Z.1 : Int) else if (cbZ (I 156) n dp (zAdd (zTo Z (P + 1)) s (-1) (-1)) (Z.1 : Int)).2.1 = 0 then cbZ (I 156) n dp (zAdd (zTo Z (P + 1)) s (-1) (-1)) (Z.1 : Int) else rdZ (I 156) n may k (cbZ (I 156) n dp (zAdd (zTo Z (P + 1)) s (-1) (-1)) (Z.1 : Int)).2.1 (cbZ (I 156) n dp (zAdd (zTo Z (P + 1)) s (-1) (-1)) (Z.1 : Int)).2.2) := by
            simp only [rdZ, hP, hs]; rw [if_neg hbad, if_neg hop]
          rw [hrd]
          generalize hr : cbZ (I 156) n dp (zAdd (zTo Z (P + 1)) s (-1) (-1)) (Z.1 : Int) = r0 at hcl hinv
          have at99 : ∀ V : Nat → Nat → Int, TxFr I V → ZH V r0.2.1 r0.2.2 → tmW kX9_readSide 6 0 0 99 [some (tR 155), some (tI may), some (tI i), some (tI s)] [tI (if r0.1 = true then 1 else 0)] (S, V, L) (CbPost S I L (if r0.1 = false then r0 else if r0.2.1 = 0 then r0 else rdZ (I 156) n may k r0.2.1 r0.2.2)) := by
            intro V fV hzV
            have v7 := hzV.2.2.2
            have hi2 := hinv
            have hdn : r0.2.1 ≤ n := Nat.le_trans (Nat.le_trans (Nat.le_add_left _ _) hi2.2.1) hi2.1
            cases hr1 : r0.1 with
            | false =>
              rw [if_pos rfl, if_neg (by decide)]
              refine wa_if_ne 104 dX9_readSide_99 (by decide) (by exact ⟨by omega, by omega⟩) (fun c_99 => ?_) (fun c_99 => ?_)
              · omega
              · refine wa_iconst dX9_readSide_102 ?_
                refine wa_zreturn dX9_readSide_103 rfl (by first | exact Or.inl rfl | exact Or.inr rfl) ?_
                refine ⟨V, ?_, rfl, fV, hzV⟩
                rw [hr1]; rfl
            | true =>
              rw [if_pos rfl, if_neg (show ¬ (true = false) by decide)]
              by_cases hd0 : r0.2.1 = 0
              · rw [if_pos hd0]
                refine wa_if_ne 104 dX9_readSide_99 (by decide) (by exact ⟨by omega, by omega⟩) (fun c_99 => ?_) (fun c_99 => ?_)
                · refine wa_aload_n dX9_readSide_104 rfl ?_
                  refine wt_getI dX9_readSide_105 FX9_34 (by assumption) ?_
                  try try rw [v7]
                  refine wa_if_ne 113 dX9_readSide_108 (by decide) (by exact ⟨by omega, by omega⟩) (fun c_108 => ?_) (fun c_108 => ?_)
                  · omega
                  · refine wa_iconst dX9_readSide_111 ?_
                    refine wa_zreturn dX9_readSide_112 rfl (by first | exact Or.inl rfl | exact Or.inr rfl) ?_
                    refine ⟨V, ?_, rfl, fV, hzV⟩
                    rw [hr1]; rfl
                · omega
              · rw [if_neg hd0]
                have nx := ih (i + 1) V r0.2.1 r0.2.2 (some (tI s)) (by omega) (by rw [fV.2.1 1 (by decide) (by decide)]; exact hn) hzV hi2
                rw [fV.1 156 (by decide) (by decide) (by decide) (by decide) (by decide) (by decide) (by decide) (by decide)] at nx
                refine wa_if_ne 104 dX9_readSide_99 (by decide) (by exact ⟨by omega, by omega⟩) (fun c_99 => ?_) (fun c_99 => ?_)
                · refine wa_aload_n dX9_readSide_104 rfl ?_
                  refine wt_getI dX9_readSide_105 FX9_34 (by assumption) ?_
                  try try rw [v7]
                  refine wa_if_ne 113 dX9_readSide_108 (by decide) (by exact ⟨by omega, by omega⟩) (fun c_108 => ?_) (fun c_108 => ?_)
                  · refine wa_iinc dX9_readSide_113 rfl (by decide) ?_
                    refine wa_goto 7 dX9_readSide_116 (by decide) ?_
                    refine nx.wk ?_
                    rintro q h'' ⟨I3, r1, r2, r3, r4⟩
                    exact ⟨I3, r1, r2, fV.trans r3, r4⟩
                  · omega
                · omega
          refine wa_aload_n dX9_readSide_45 rfl ?_
          refine wa_dup dX9_readSide_46 rfl ?_
          refine wt_getI dX9_readSide_47 FX9_37 (by assumption) ?_
          try try rw [hJ8]
          refine wa_iconst dX9_readSide_50 ?_
          refine wa_iadd dX9_readSide_51 ?_
          refine wt_putI dX9_readSide_52 FX9_37 (WX9_8 _ _) (by assumption) (by exact ⟨by omega, by omega⟩) ?_
          rw [hKe]
          refine wa_iload_n dX9_readSide_55 rfl ?_
          refine wa_iconst dX9_readSide_56 ?_
          refine wa_icmp_lt 85 dX9_readSide_57 (by decide) (by exact ⟨by omega, by omega⟩) (by exact ⟨by omega, by omega⟩) (fun c_57 => ?_) (fun c_57 => ?_)
          · refine wa_aload_n dX9_readSide_85 rfl ?_
            refine wa_aload_n dX9_readSide_86 rfl ?_
            refine wt_getR dX9_readSide_87 FX9_24 (by assumption) (by assumption) ?_
            refine wa_iload_n dX9_readSide_90 rfl ?_
            refine wa_iconst dX9_readSide_91 ?_
            refine wa_iconst dX9_readSide_92 ?_
            refine wa_callVf (ci := 2) dX9_readSide_93 KX2_add LX9_127 ⟨_, _, rfl, by decide⟩ o157 (hpa) (by decide) rfl rfl (Nat.le_of_ble_eq_true rfl) rfl rfl ?_
            refine wa_callV (ci := 9) dX9_readSide_96 KX9_closeBehind LX9_131 ⟨_, _, rfl, by decide⟩ o155 (hcl) (by decide) rfl (Nat.le_of_ble_eq_true rfl) rfl rfl (fun r h' hq => ?_)
            obtain ⟨V, rfl, rfl, fV, hzV⟩ := hq
            exact at99 V (fT.trans fV) hzV
          · refine wa_iload_n dX9_readSide_60 rfl ?_
            refine wa_bipush dX9_readSide_61 rfl ?_
            refine wa_icmp_gt 85 dX9_readSide_63 (by decide) (by exact ⟨by omega, by omega⟩) (by exact ⟨by omega, by omega⟩) (fun c_63 => ?_) (fun c_63 => ?_)
            · refine wa_aload_n dX9_readSide_85 rfl ?_
              refine wa_aload_n dX9_readSide_86 rfl ?_
              refine wt_getR dX9_readSide_87 FX9_24 (by assumption) (by assumption) ?_
              refine wa_iload_n dX9_readSide_90 rfl ?_
              refine wa_iconst dX9_readSide_91 ?_
              refine wa_iconst dX9_readSide_92 ?_
              refine wa_callVf (ci := 2) dX9_readSide_93 KX2_add LX9_127 ⟨_, _, rfl, by decide⟩ o157 (hpa) (by decide) rfl rfl (Nat.le_of_ble_eq_true rfl) rfl rfl ?_
              refine wa_callV (ci := 9) dX9_readSide_96 KX9_closeBehind LX9_131 ⟨_, _, rfl, by decide⟩ o155 (hcl) (by decide) rfl (Nat.le_of_ble_eq_true rfl) rfl rfl (fun r h' hq => ?_)
              obtain ⟨V, rfl, rfl, fV, hzV⟩ := hq
              exact at99 V (fT.trans fV) hzV
            · omega
      refine wa_iload_n dX9_readSide_7 rfl ?_
      refine wa_bipush dX9_readSide_8 rfl ?_
      refine wa_icmp_gt 119 dX9_readSide_10 (by decide) (by exact ⟨by omega, by omega⟩) (by exact ⟨by omega, by omega⟩) (fun c_10 => ?_) (fun c_10 => ?_)
      · omega
      · refine wa_aload_n dX9_readSide_13 rfl ?_
        refine wa_callVf (ci := 9) dX9_readSide_14 KX9_peek LX9_48 ⟨_, _, rfl, by decide⟩ o155 (hpk) (by decide) rfl rfl (Nat.le_of_ble_eq_true rfl) rfl rfl ?_
        refine wa_callSf dX9_readSide_17 KX9_signOf LX9_121 (hsg) (by decide) rfl rfl (Nat.le_of_ble_eq_true rfl) rfl rfl ?_
        refine wa_istore_n dX9_readSide_20 (by decide) ?_
        refine wa_iload_n dX9_readSide_21 rfl ?_
        refine wa_iconst dX9_readSide_22 ?_
        refine wa_icmp_eq 43 dX9_readSide_23 (by decide) (by exact ⟨by omega, by omega⟩) (by exact ⟨by omega, by omega⟩) (fun c_23 => ?_) (fun c_23 => ?_)
        · omega
        · refine wa_iload_n dX9_readSide_26 rfl ?_
          refine wa_bipush dX9_readSide_27 rfl ?_
          refine wa_icmp_lt 45 dX9_readSide_29 (by decide) (by exact ⟨by omega, by omega⟩) (by exact ⟨by omega, by omega⟩) (fun c_29 => ?_) (fun c_29 => ?_)
          · exact at45
          · refine wa_iload_n dX9_readSide_32 rfl ?_
            refine wa_iload_n dX9_readSide_33 rfl ?_
            refine wa_bipush dX9_readSide_34 rfl ?_
            refine wa_isub dX9_readSide_36 ?_
            refine wa_ishr dX9_readSide_37 (q1 (by omega)) ?_
            refine wa_iconst dX9_readSide_38 ?_
            refine wa_iand dX9_readSide_39 (q3 (by omega)) ?_
            refine wa_if_ne 45 dX9_readSide_40 (by decide) (by exact ⟨by omega, by omega⟩) (fun c_40 => ?_) (fun c_40 => ?_)
            · exact at45
            · omega
/-- a side is read: from depth 0 -/
def rdS (b : Nat → Int) (n may : Nat) (Z : ZS) : Bool × Nat × ZS := rdZ b n may 121 0 Z
theorem c_readSide (hL : LX S) {n : Nat} (hn1 : n ≤ 120) (may : Nat) (hmay : may < 8) {I : Nat → Nat → Int} {dp : Nat} {Z : ZS} (hn : I 155 1 = (n : Int)) (hz : ZH I dp Z) (hi : ZI n 0 Z) : tmC yX9_readSide kX9_readSide 6 0 0 [tR 155, tI may] (S, I, L) (CbPost S I L (rdS (I 156) n may Z)) := by
  refine tmC.mk (lv := [some (tR 155), some (tI may), none, none]) 2 ⟨rfl, by decide +kernel, by decide⟩ rfl rfl ?_
  have o155 := oX155 hL
  have r155_0 := rX155_0 hL
  have r155_2 := rX155_2 hL
  have r155_3 := rX155_3 hL
  have r155_4 := rX155_4 hL
  have r155_5 := rX155_5 hL
  have r155_6 := rX155_6 hL
  obtain ⟨z1, z2, z3, z4⟩ := id hz
  generalize hV : va_up I 155 (va_up (I 155) 7 0) = V
  have gV : ∀ a, a ≠ 155 → V a = I a := fun a ha => by rw [← hV]; exact vup_n ha
  have g155 : V 155 = va_up (I 155) 7 0 := by rw [← hV, vup_s]
  have hzV : ZH V 0 Z := by
    refine ⟨?_, by rw [gV 157 (by decide)]; exact z2, by rw [g155, vup_n (by decide)]; exact z3, by rw [g155, vup_s]; rfl⟩
    rw [← z1]
    unfold zOf
    rw [gV 157 (by decide), gV 158 (by decide), gV 159 (by decide), gV 160 (by decide), gV 161 (by decide), gV 162 (by decide), gV 163 (by decide), g155, vup_n (by decide)]
  have fV : TxFr I V := ⟨fun a a1 _ _ _ _ _ _ _ => gV a a1, fun q q7 _ => by rw [g155, vup_n q7], fun q _ => by rw [gV 157 (by decide)]⟩
  have h0 := side_loop (L := L) hL hn1 may hmay 121 0 V 0 Z none (by omega) (by rw [fV.2.1 1 (by decide) (by decide)]; exact hn) hzV hi
  rw [gV 156 (by decide)] at h0
  refine wa_aload_n dX9_readSide_0 rfl ?_
  refine wa_iconst dX9_readSide_1 ?_
  refine wt_putI dX9_readSide_2 FX9_34 (WX9_7 _ _) (by assumption) (by exact ⟨by omega, by omega⟩) ?_
  refine wa_iconst dX9_readSide_5 ?_
  refine wa_istore_n dX9_readSide_6 (by decide) ?_
  rw [hV]
  refine h0.wk ?_
  rintro q h'' ⟨I3, r1, r2, r3, r4⟩
  exact ⟨I3, r1, r2, fV.trans r3, r4⟩
end S49
