/-! ===== 63: Text.sentence, walked ===== -/
theorem TxL.ts {I K : Nat → Nat → Int} (h : TxL I K) (n : Nat) : tsOf K n = tsOf I n := by
  simp only [tsOf, h.at' (a := 3) (by omega), h.at' (a := 4) (by omega), h.at' (a := 5) (by omega), h.at' (a := 6) (by omega), h.at' (a := 7) (by omega)]
theorem ZH.rows {K : Nat → Nat → Int} {dp : Nat} {Z : ZS} (h : ZH K dp Z) : K 158 = Z.2.1 ∧ K 159 = Z.2.2.1 ∧ K 160 = Z.2.2.2.1 ∧ K 161 = Z.2.2.2.2.1 := by
  obtain ⟨rfl, _⟩ := h
  exact ⟨rfl, rfl, rfl, rfl⟩
section S63
variable {S : tmS} {I : Nat → Nat → Int} {L : Nat → Nat → Int64}
/-- termSentence, where a sentence calls it -/
theorem ts_call (hL : LX S) {n nb sz lf p dp : Nat} {K : Nat → Nat → Int} {Z : ZS} (hn : I 2 0 = (n : Int)) (hX : TsOK (tsOf I n)) (hnb : I 155 1 = (nb : Int)) (hnb1 : nb ≤ 120) (f : TxL I K) (hz : ZH K dp Z) (hi : ZI nb 0 Z) (hwf : WFN Z.1 Z.2.1 Z.2.2.1 Z.2.2.2.1) (hlf : K 157 1 = (lf : Int)) (h1 : 1 ≤ lf) (h2 : lf ≤ Z.1) (hsz : sz = Z.1) (hp : p = Z.2.2.2.2.2.2.2) : tmC yX9_termSentence kX9_termSentence 7 0 0 [tR 155] (S, K, L) (TsPost S K L n nb sz lf p) := by
  subst hsz
  subst hp
  obtain ⟨r1, r2, r3, _⟩ := hz.rows
  have := hi.1
  have := hi.2.1
  exact c_termSentence hL (by rw [f.at' (by omega)]; exact hn) (by rw [f.ts]; exact hX) hz.2.1 hlf h1 h2 (by omega) (by rw [r1, r2, r3]; exact hwf) (by rw [f.2 1 (by decide) (by decide)]; exact hnb) hnb1 hz.2.2.1 hi.1
set_option maxRecDepth 20000 in
set_option maxHeartbeats 4000000 in
theorem c_sentence (hL : LX S) {n nb nr p dp bc bs : Nat} (hn : I 2 0 = (n : Int)) (hX : TsOK (tsOf I n)) (hnb : I 155 1 = (nb : Int)) (hnb1 : nb ≤ 120) (hp : I 155 8 = (p : Int)) (hpn : p ≤ nb) (hdp : I 155 7 = (dp : Int)) (hnr : I 1 2 = (nr : Int)) (hnr6 : nr ≤ 6) (hbd : (snL I nb p).1 = true → byt (I 156) nb (snP I nb p) = 62 → (rsO (I 156) nb nr (snM I nb p) (zTo (snL I nb p).2.2 (snP I nb p))).1 = true → 5 ≤ bc ∧ 486 ≤ bs) :
    tmC yX9_sentence kX9_sentence 8 bc bs [tR 155] (S, I, L) (SnPost S I L n nb nr p) := by
  refine tmC.mk (lv := [some (tR 155), none]) 1 ⟨rfl, by decide +kernel, by decide⟩ rfl rfl ?_
  have o155 := oX155 hL
  have r155_0 := rX155_0 hL
  have r155_2 := rX155_2 hL
  have r155_3 := rX155_3 hL
  have r155_4 := rX155_4 hL
  have r155_5 := rX155_5 hL
  have r155_6 := rX155_6 hL
  have o157 := oX157 hL
  have r157_2 := rX157_2 hL
  have r157_3 := rX157_3 hL
  have r157_4 := rX157_4 hL
  have r157_5 := rX157_5 hL
  have o158 := oX158 hL
  have o159 := oX159 hL
  have o160 := oX160 hL
  have o161 := oX161 hL
  have hpat : LPat S 157 120 := ⟨o157, r157_2, r157_3, r157_4, r157_5, o158, o159, o160, o161⟩
  have hem := c_Pempty (I := I) (L := L) hpat
  generalize hJ : va_up I 157 (va_up (va_up (I 157) 0 0) 1 0) = J at hem
  have gJ : ∀ a, a ≠ 157 → J a = I a := fun a ha => by rw [← hJ]; exact vup_n ha
  have j0 : J 157 0 = ((0 : Nat) : Int) := by rw [← hJ, vup_s, vup_n (by decide), vup_s]; rfl
  have fJ : TxL I J := ⟨fun a _ a2 _ _ _ _ _ _ => gJ a a2, fun k _ _ => by rw [gJ 155 (by decide)]⟩
  have hzJ : ZH J dp (0, I 158, I 159, I 160, I 161, I 162, I 163, p) := by
    refine ⟨?_, j0, by rw [gJ 155 (by decide)]; exact hp, by rw [gJ 155 (by decide)]; exact hdp⟩
    unfold zOf
    rw [j0, gJ 158 (by decide), gJ 159 (by decide), gJ 160 (by decide), gJ 161 (by decide), gJ 162 (by decide), gJ 163 (by decide), gJ 155 (by decide), hp]
    rfl
  have hrs := c_readSide (I := J) (L := L) hL hnb1 7 (by decide) (by rw [gJ 155 (by decide)]; exact hnb) hzJ ⟨hpn, Nat.zero_le _, fun k hk => by omega⟩
  rw [gJ 156 (by decide)] at hrs
  have hrs' : tmC yX9_readSide kX9_readSide 6 0 0 [tR 155, tI (7 : Nat)] (S, J, L) (CbPost S J L (snL I nb p)) := hrs
  obtain ⟨hzi, htr⟩ := snL_ok (I := I) hpn
  have at13 : ∀ V : Nat → Nat → Int, TxL I V → ZH V (snL I nb p).2.1 (snL I nb p).2.2 → tmW kX9_sentence 8 bc bs 13 [some (tR 155), none] [tI (if (snL I nb p).1 = true then 1 else 0)] (S, V, L) (SnPost S I L n nb nr p) := by
    intro V fV hzV
    cases h1 : (snL I nb p).1 with
    | false =>
      rw [if_neg (by decide)]
      refine wa_if_ne 18 dX9_sentence_13 (by decide) (by exact ⟨by omega, by omega⟩) (fun c_13 => ?_) (fun c_13 => ?_)
      · omega
      · refine wa_iconst dX9_sentence_16 ?_
        refine wa_zreturn dX9_sentence_17 rfl (by first | exact Or.inl rfl | exact Or.inr rfl) ?_
        exact Or.inl ⟨h1, rfl, V, _, rfl, fV, hzV⟩
    | true =>
      rw [if_pos rfl]
      obtain ⟨hpos, hsd⟩ := htr h1
      refine wt_ir (fun hI => ?_)
      have hz0 : ZI nb 0 (snL I nb p).2.2 := ⟨hzi.1, by have := hzi.2.1; omega, fun k hk => by omega⟩
      have hs120 : (snL I nb p).2.2.1 ≤ 120 := by have a := hzi.1; have b := hzi.2.1; omega
      have hv0 : V 157 0 = ((snL I nb p).2.2.1 : Int) := hzV.2.1
      obtain ⟨r1, r2, r3, r4⟩ := hzV.rows
      obtain ⟨w1, w2⟩ := one_WF hsd
      obtain ⟨W, hW⟩ : ∃ W, va_up V 157 (va_up (V 157) 1 (V 157 0)) = W := ⟨_, rfl⟩
      have gW : ∀ a, a ≠ 157 → W a = V a := fun a ha => by rw [← hW]; exact vup_n ha
      have w570 : W 157 0 = ((snL I nb p).2.2.1 : Int) := by rw [← hW, vup_s, vup_n (by decide)]; exact hv0
      have w571 : W 157 1 = ((snL I nb p).2.2.1 : Int) := by rw [← hW, vup_s, vup_s]; exact hv0
      have fW : TxL I W := fV.trans ⟨fun a _ a2 _ _ _ _ _ _ => gW a a2, fun k _ _ => by rw [gW 155 (by decide)]⟩
      have hzW : ZH W (snL I nb p).2.1 (snL I nb p).2.2 := by
        refine ⟨?_, w570, by rw [gW 155 (by decide)]; exact hzV.2.2.1, by rw [gW 155 (by decide)]; exact hzV.2.2.2⟩
        rw [← hzV.1]
        unfold zOf
        rw [w570, hv0, gW 158 (by decide), gW 159 (by decide), gW 160 (by decide), gW 161 (by decide), gW 162 (by decide), gW 163 (by decide), gW 155 (by decide)]
      have hlet := c_lettersIn (I := W) (L := L) hpat w570 hs120 (Nat.le_refl _) 0 (snL I nb p).2.2.1 (by omega) (Nat.le_refl _) (by rw [gW 158 (by decide), r1]; exact fun i hi => ⟨(w1 i hi).1, (w1 i hi).2.1⟩)
      rw [gW 158 (by decide), r1, Nat.sub_zero] at hlet
      have hm8 : snM I nb p < 8 := tmLet_lt (sg := (snL I nb p).2.2.2.1) (snL I nb p).2.2.1 0 0 (fun j _ j2 => (w1 j (by omega)).2.1) (by decide)
      have hlet' : tmC yX2_lettersIn kX2_lettersIn 1 0 0 [tR 157, tI 0, tI ((snL I nb p).2.2.1 : Nat)] (S, W, L) (tmF (some (tI (snM I nb p : Nat))) (S, W, L)) := hlet
      have w156 : W 156 = I 156 := fW.at' (by omega)
      have hpk := c_peek (I := W) (L := L) hL (by rw [fW.2 1 (by decide) (by decide)]; exact hnb) hnb1 hzW.2.2.1 hzi.1
      rw [w156] at hpk
      have hsk := skp_b (b := I 156) hzi.1
      have hpk' : tmC yX9_peek kX9_peek 1 0 0 [tR 155] (S, W, L) (tmF (some (tI (byt (I 156) nb (snP I nb p)))) (S, atP W (snP I nb p), L)) := hpk
      obtain ⟨hzP, hfP⟩ := atP_ZH hzW (snP I nb p)
      generalize hP : atP W (snP I nb p) = P at hpk' hzP hfP
      have fP : TxL I P := fW.trans hfP.l
      have p571 : P 157 1 = ((snL I nb p).2.2.1 : Int) := by rw [hfP.2.2 1 (by decide)]; exact w571
      have ziP : ZI nb 0 (zTo (snL I nb p).2.2 (snP I nb p)) := ⟨hsk.2, Nat.le_trans hz0.2.1 hsk.1, fun k hk => by omega⟩
      have hbr : inR (byt (I 156) nb (snP I nb p)) := by
        unfold byt; split
        · rw [← w156, gW 156 (by decide)]; exact hI _ _
        · exact ⟨by decide, by decide⟩
      have nbP : P 155 1 = (nb : Int) := by rw [fP.2 1 (by decide) (by decide)]; exact hnb
      have p156 : P 156 = I 156 := fP.at' (by omega)
      generalize hm : snM I nb p = m at hlet' hm8
      by_cases hb : byt (I 156) nb (snP I nb p) = 62
      · have hrsn := c_ruleSentence (I := P) (L := L) hL hnb1 hm8 nbP hzP ziP p571 (by rw [fP.at' (by omega)]; exact hnr) hnr6 (fun z => hbd h1 hb (by rw [hm]; rw [p156] at z; exact z))
        refine wa_if_ne 18 dX9_sentence_13 (by decide) (by first | exact hbr | exact ⟨by omega, by omega⟩ | exact hI _ _) (fun c_13 => ?_) (fun c_13 => ?_)
        · refine wa_aload_n dX9_sentence_18 rfl ?_
          refine wt_getR dX9_sentence_19 FX9_24 (by assumption) (by assumption) ?_
          refine wa_aload_n dX9_sentence_22 rfl ?_
          refine wt_getR dX9_sentence_23 FX9_24 (by assumption) (by assumption) ?_
          refine wt_getI dX9_sentence_26 FX9_63 o157 ?_
          refine wt_putI dX9_sentence_29 FX9_66 (WX2_1 _ _) o157 (by first | exact hbr | exact ⟨by omega, by omega⟩ | exact hI _ _) ?_
          rw [hW]
          refine wa_aload_n dX9_sentence_32 rfl ?_
          refine wt_getR dX9_sentence_33 FX9_24 (by assumption) (by assumption) ?_
          refine wa_iconst dX9_sentence_36 ?_
          refine wa_aload_n dX9_sentence_37 rfl ?_
          refine wt_getR dX9_sentence_38 FX9_24 (by assumption) (by assumption) ?_
          refine wt_getI dX9_sentence_41 FX9_66 o157 ?_
          rw [w571]
          refine wa_callVf (ci := 2) dX9_sentence_44 KX2_lettersIn LX9_69 ⟨_, _, rfl, by decide⟩ o157 (hlet') (by decide) rfl rfl (Nat.le_of_ble_eq_true rfl) rfl rfl ?_
          refine wa_istore_n dX9_sentence_47 (by decide) ?_
          refine wa_aload_n dX9_sentence_48 rfl ?_
          refine wa_callVf (ci := 9) dX9_sentence_49 KX9_peek LX9_48 ⟨_, _, rfl, by decide⟩ o155 (hpk') (by decide) rfl rfl (Nat.le_of_ble_eq_true rfl) rfl rfl ?_
          refine wa_bipush dX9_sentence_52 rfl ?_
          refine wa_icmp_ne 63 dX9_sentence_54 (by decide) (by first | exact hbr | exact ⟨by omega, by omega⟩ | exact hI _ _) (by first | exact hbr | exact ⟨by omega, by omega⟩ | exact hI _ _) (fun c_54 => ?_) (fun c_54 => ?_)
          · exact absurd hb c_54
          · refine wa_aload_n dX9_sentence_57 rfl ?_
            refine wa_iload_n dX9_sentence_58 rfl ?_
            refine wa_callV (ci := 9) dX9_sentence_59 KX9_ruleSentence LX9_73 ⟨_, _, rfl, by decide⟩ o155 (hrsn) (by decide) rfl (Nat.le_of_ble_eq_true rfl) (Nat.zero_add _) (Nat.zero_add _) (fun r h' hq => ?_)
            have hfin : SnPost S I L n nb nr p r h' := Or.inr ⟨h1, Or.inl ⟨hb, P, _, fP, hzP, p571, by rw [hm]; exact hq⟩⟩
            rcases hq with ⟨_, rfl, _⟩ | ⟨_, rfl, _⟩
            · exact wa_zreturn dX9_sentence_62 rfl (Or.inl rfl) hfin
            · exact wa_zreturn dX9_sentence_62 rfl (Or.inr rfl) hfin
        · omega
      · by_cases hm0 : m = 0
        · have htk := c_take (I := P) (L := L) hL nbP hnb1 hzP.2.2.1 hsk.2 61 ⟨by decide, by decide⟩
          rw [p156] at htk
          have htk' : tmC yX9_take kX9_take 2 0 0 [tR 155, tI 61] (S, P, L) (tmF (some (tI (if tkB (I 156) nb (snP I nb p) 61 then 1 else 0))) (S, atP P (tkP (I 156) nb (snP I nb p) 61), L)) := htk
          have htb := tkP_b (b := I 156) hsk.2 (c := 61) (by decide)
          obtain ⟨hzT, hfT⟩ := atP_ZH hzP (tkP (I 156) nb (snP I nb p) 61)
          generalize hT : atP P (tkP (I 156) nb (snP I nb p) 61) = T at htk' hzT hfT
          have fT : TxL I T := fP.trans hfT.l
          have t571 : T 157 1 = ((snL I nb p).2.2.1 : Int) := by rw [hfT.2.2 1 (by decide)]; exact p571
          have ziT : ZI nb 0 (zTo (snL I nb p).2.2 (tkP (I 156) nb (snP I nb p) 61)) := ⟨htb.2.1, Nat.le_trans ziP.2.1 htb.1, fun k hk => by omega⟩
          by_cases ht : tkB (I 156) nb (snP I nb p) 61
          · rw [if_pos ht] at htk'
            have hrd := c_readSide (I := T) (L := L) hL hnb1 7 (by decide) (by rw [fT.2 1 (by decide) (by decide)]; exact hnb) hzT ziT
            rw [fT.at' (a := 156) (by omega)] at hrd
            have hrd' : tmC yX9_readSide kX9_readSide 6 0 0 [tR 155, tI (7 : Nat)] (S, T, L) (CbPost S T L (snR I nb p)) := hrd
            obtain ⟨ri, rk, rt⟩ := snR_ok (I := I) hpn
            have at84 : ∀ U : Nat → Nat → Int, TxL I U → ZH U (snR I nb p).2.1 (snR I nb p).2.2 → U 157 1 = ((snL I nb p).2.2.1 : Int) → tmW kX9_sentence 8 bc bs 84 [some (tR 155), some (tI (m : Nat))] [tI (if (snR I nb p).1 = true then 1 else 0)] (S, U, L) (SnPost S I L n nb nr p) := by
              intro U fU hzU u571
              cases h2 : (snR I nb p).1 with
              | false =>
                rw [if_neg (by decide)]
                refine wa_if_ne 89 dX9_sentence_84 (by decide) (by exact ⟨by omega, by omega⟩) (fun c_84 => ?_) (fun c_84 => ?_)
                · omega
                · refine wa_iconst dX9_sentence_87 ?_
                  refine wa_zreturn dX9_sentence_88 rfl (by first | exact Or.inl rfl | exact Or.inr rfl) ?_
                  exact Or.inr ⟨h1, Or.inr (Or.inr (Or.inl ⟨hb, by rw [hm]; exact hm0, ht, h2, rfl, U, _, rfl, fU, hzU⟩))⟩
              | true =>
                rw [if_pos rfl]
                obtain ⟨rlt, rsd⟩ := rt h2
                have hts := ts_call (L := L) hL hn hX hnb hnb1 fU hzU ⟨ri.1, by have := ri.2.1; omega, fun k hk => by omega⟩ (two_WF hsd rk rsd).1 u571 hpos (Nat.le_of_lt rlt) rfl rfl
                refine wa_if_ne 89 dX9_sentence_84 (by decide) (by exact ⟨by omega, by omega⟩) (fun c_84 => ?_) (fun c_84 => ?_)
                · refine wa_aload_n dX9_sentence_89 rfl ?_
                  refine wa_callV (ci := 9) dX9_sentence_90 KX9_termSentence LX9_79 ⟨_, _, rfl, by decide⟩ o155 (hts) (by decide) rfl (Nat.le_of_ble_eq_true rfl) rfl rfl (fun r h' hq => ?_)
                  have hfin : SnPost S I L n nb nr p r h' := Or.inr ⟨h1, Or.inr (Or.inr (Or.inr (Or.inl ⟨hb, by rw [hm]; exact hm0, ht, h2, U, _, fU, hzU, u571, hq⟩)))⟩
                  obtain ⟨I', _, _, _, _, _, hq | hq⟩ := hq
                  · obtain ⟨rfl, _⟩ := hq
                    exact wa_zreturn dX9_sentence_93 rfl (Or.inl rfl) hfin
                  · obtain ⟨rfl, _⟩ := hq
                    exact wa_zreturn dX9_sentence_93 rfl (Or.inr rfl) hfin
                · omega
            refine wa_if_ne 18 dX9_sentence_13 (by decide) (by first | exact hbr | exact ⟨by omega, by omega⟩ | exact hI _ _) (fun c_13 => ?_) (fun c_13 => ?_)
            · refine wa_aload_n dX9_sentence_18 rfl ?_
              refine wt_getR dX9_sentence_19 FX9_24 (by assumption) (by assumption) ?_
              refine wa_aload_n dX9_sentence_22 rfl ?_
              refine wt_getR dX9_sentence_23 FX9_24 (by assumption) (by assumption) ?_
              refine wt_getI dX9_sentence_26 FX9_63 o157 ?_
              refine wt_putI dX9_sentence_29 FX9_66 (WX2_1 _ _) o157 (by first | exact hbr | exact ⟨by omega, by omega⟩ | exact hI _ _) ?_
              rw [hW]
              refine wa_aload_n dX9_sentence_32 rfl ?_
              refine wt_getR dX9_sentence_33 FX9_24 (by assumption) (by assumption) ?_
              refine wa_iconst dX9_sentence_36 ?_
              refine wa_aload_n dX9_sentence_37 rfl ?_
              refine wt_getR dX9_sentence_38 FX9_24 (by assumption) (by assumption) ?_
              refine wt_getI dX9_sentence_41 FX9_66 o157 ?_
              rw [w571]
              refine wa_callVf (ci := 2) dX9_sentence_44 KX2_lettersIn LX9_69 ⟨_, _, rfl, by decide⟩ o157 (hlet') (by decide) rfl rfl (Nat.le_of_ble_eq_true rfl) rfl rfl ?_
              refine wa_istore_n dX9_sentence_47 (by decide) ?_
              refine wa_aload_n dX9_sentence_48 rfl ?_
              refine wa_callVf (ci := 9) dX9_sentence_49 KX9_peek LX9_48 ⟨_, _, rfl, by decide⟩ o155 (hpk') (by decide) rfl rfl (Nat.le_of_ble_eq_true rfl) rfl rfl ?_
              refine wa_bipush dX9_sentence_52 rfl ?_
              refine wa_icmp_ne 63 dX9_sentence_54 (by decide) (by first | exact hbr | exact ⟨by omega, by omega⟩ | exact hI _ _) (by first | exact hbr | exact ⟨by omega, by omega⟩ | exact hI _ _) (fun c_54 => ?_) (fun c_54 => ?_)
              · refine wa_iload_n dX9_sentence_63 rfl ?_
                refine wa_if_eq 69 dX9_sentence_64 (by decide) (by first | exact hbr | exact ⟨by omega, by omega⟩ | exact hI _ _) (fun c_64 => ?_) (fun c_64 => ?_)
                · refine wa_aload_n dX9_sentence_69 rfl ?_
                  refine wa_bipush dX9_sentence_70 rfl ?_
                  refine wa_callVf (ci := 9) dX9_sentence_72 KX9_take LX9_76 ⟨_, _, rfl, by decide⟩ o155 (htk') (by decide) rfl rfl (Nat.le_of_ble_eq_true rfl) rfl rfl ?_
                  refine wa_if_eq 89 dX9_sentence_75 (by decide) (by first | exact hbr | exact ⟨by omega, by omega⟩ | exact hI _ _) (fun c_75 => ?_) (fun c_75 => ?_)
                  · omega
                  · refine wa_aload_n dX9_sentence_78 rfl ?_
                    refine wa_bipush dX9_sentence_79 rfl ?_
                    refine wa_callV (ci := 9) dX9_sentence_81 KX9_readSide LX9_59 ⟨_, _, rfl, by decide⟩ o155 (hrd') (by decide) rfl (Nat.le_of_ble_eq_true rfl) rfl rfl (fun r h' hq => ?_)
                    obtain ⟨U, rfl, rfl, fU, hzU⟩ := hq
                    exact at84 U (fT.trans fU.l) hzU (by rw [fU.2.2 1 (by decide)]; exact t571)
                · omega
              · exact absurd c_54 hb
            · omega
          · rw [if_neg ht] at htk'
            have hts := ts_call (L := L) hL hn hX hnb hnb1 fT hzT ziT w1 t571 hpos (Nat.le_refl _) rfl rfl
            refine wa_if_ne 18 dX9_sentence_13 (by decide) (by first | exact hbr | exact ⟨by omega, by omega⟩ | exact hI _ _) (fun c_13 => ?_) (fun c_13 => ?_)
            · refine wa_aload_n dX9_sentence_18 rfl ?_
              refine wt_getR dX9_sentence_19 FX9_24 (by assumption) (by assumption) ?_
              refine wa_aload_n dX9_sentence_22 rfl ?_
              refine wt_getR dX9_sentence_23 FX9_24 (by assumption) (by assumption) ?_
              refine wt_getI dX9_sentence_26 FX9_63 o157 ?_
              refine wt_putI dX9_sentence_29 FX9_66 (WX2_1 _ _) o157 (by first | exact hbr | exact ⟨by omega, by omega⟩ | exact hI _ _) ?_
              rw [hW]
              refine wa_aload_n dX9_sentence_32 rfl ?_
              refine wt_getR dX9_sentence_33 FX9_24 (by assumption) (by assumption) ?_
              refine wa_iconst dX9_sentence_36 ?_
              refine wa_aload_n dX9_sentence_37 rfl ?_
              refine wt_getR dX9_sentence_38 FX9_24 (by assumption) (by assumption) ?_
              refine wt_getI dX9_sentence_41 FX9_66 o157 ?_
              rw [w571]
              refine wa_callVf (ci := 2) dX9_sentence_44 KX2_lettersIn LX9_69 ⟨_, _, rfl, by decide⟩ o157 (hlet') (by decide) rfl rfl (Nat.le_of_ble_eq_true rfl) rfl rfl ?_
              refine wa_istore_n dX9_sentence_47 (by decide) ?_
              refine wa_aload_n dX9_sentence_48 rfl ?_
              refine wa_callVf (ci := 9) dX9_sentence_49 KX9_peek LX9_48 ⟨_, _, rfl, by decide⟩ o155 (hpk') (by decide) rfl rfl (Nat.le_of_ble_eq_true rfl) rfl rfl ?_
              refine wa_bipush dX9_sentence_52 rfl ?_
              refine wa_icmp_ne 63 dX9_sentence_54 (by decide) (by first | exact hbr | exact ⟨by omega, by omega⟩ | exact hI _ _) (by first | exact hbr | exact ⟨by omega, by omega⟩ | exact hI _ _) (fun c_54 => ?_) (fun c_54 => ?_)
              · refine wa_iload_n dX9_sentence_63 rfl ?_
                refine wa_if_eq 69 dX9_sentence_64 (by decide) (by first | exact hbr | exact ⟨by omega, by omega⟩ | exact hI _ _) (fun c_64 => ?_) (fun c_64 => ?_)
                · refine wa_aload_n dX9_sentence_69 rfl ?_
                  refine wa_bipush dX9_sentence_70 rfl ?_
                  refine wa_callVf (ci := 9) dX9_sentence_72 KX9_take LX9_76 ⟨_, _, rfl, by decide⟩ o155 (htk') (by decide) rfl rfl (Nat.le_of_ble_eq_true rfl) rfl rfl ?_
                  refine wa_if_eq 89 dX9_sentence_75 (by decide) (by first | exact hbr | exact ⟨by omega, by omega⟩ | exact hI _ _) (fun c_75 => ?_) (fun c_75 => ?_)
                  · refine wa_aload_n dX9_sentence_89 rfl ?_
                    refine wa_callV (ci := 9) dX9_sentence_90 KX9_termSentence LX9_79 ⟨_, _, rfl, by decide⟩ o155 (hts) (by decide) rfl (Nat.le_of_ble_eq_true rfl) rfl rfl (fun r h' hq => ?_)
                    have hfin : SnPost S I L n nb nr p r h' := Or.inr ⟨h1, Or.inr (Or.inr (Or.inr (Or.inr ⟨hb, by rw [hm]; exact hm0, ht, T, _, fT, hzT, t571, hq⟩)))⟩
                    obtain ⟨I', _, _, _, _, _, hq | hq⟩ := hq
                    · obtain ⟨rfl, _⟩ := hq
                      exact wa_zreturn dX9_sentence_93 rfl (Or.inl rfl) hfin
                    · obtain ⟨rfl, _⟩ := hq
                      exact wa_zreturn dX9_sentence_93 rfl (Or.inr rfl) hfin
                  · omega
                · omega
              · exact absurd c_54 hb
            · omega
        · refine wa_if_ne 18 dX9_sentence_13 (by decide) (by first | exact hbr | exact ⟨by omega, by omega⟩ | exact hI _ _) (fun c_13 => ?_) (fun c_13 => ?_)
          · refine wa_aload_n dX9_sentence_18 rfl ?_
            refine wt_getR dX9_sentence_19 FX9_24 (by assumption) (by assumption) ?_
            refine wa_aload_n dX9_sentence_22 rfl ?_
            refine wt_getR dX9_sentence_23 FX9_24 (by assumption) (by assumption) ?_
            refine wt_getI dX9_sentence_26 FX9_63 o157 ?_
            refine wt_putI dX9_sentence_29 FX9_66 (WX2_1 _ _) o157 (by first | exact hbr | exact ⟨by omega, by omega⟩ | exact hI _ _) ?_
            rw [hW]
            refine wa_aload_n dX9_sentence_32 rfl ?_
            refine wt_getR dX9_sentence_33 FX9_24 (by assumption) (by assumption) ?_
            refine wa_iconst dX9_sentence_36 ?_
            refine wa_aload_n dX9_sentence_37 rfl ?_
            refine wt_getR dX9_sentence_38 FX9_24 (by assumption) (by assumption) ?_
            refine wt_getI dX9_sentence_41 FX9_66 o157 ?_
            rw [w571]
            refine wa_callVf (ci := 2) dX9_sentence_44 KX2_lettersIn LX9_69 ⟨_, _, rfl, by decide⟩ o157 (hlet') (by decide) rfl rfl (Nat.le_of_ble_eq_true rfl) rfl rfl ?_
            refine wa_istore_n dX9_sentence_47 (by decide) ?_
            refine wa_aload_n dX9_sentence_48 rfl ?_
            refine wa_callVf (ci := 9) dX9_sentence_49 KX9_peek LX9_48 ⟨_, _, rfl, by decide⟩ o155 (hpk') (by decide) rfl rfl (Nat.le_of_ble_eq_true rfl) rfl rfl ?_
            refine wa_bipush dX9_sentence_52 rfl ?_
            refine wa_icmp_ne 63 dX9_sentence_54 (by decide) (by first | exact hbr | exact ⟨by omega, by omega⟩ | exact hI _ _) (by first | exact hbr | exact ⟨by omega, by omega⟩ | exact hI _ _) (fun c_54 => ?_) (fun c_54 => ?_)
            · refine wa_iload_n dX9_sentence_63 rfl ?_
              refine wa_if_eq 69 dX9_sentence_64 (by decide) (by first | exact hbr | exact ⟨by omega, by omega⟩ | exact hI _ _) (fun c_64 => ?_) (fun c_64 => ?_)
              · omega
              · refine wa_iconst dX9_sentence_67 ?_
                refine wa_zreturn dX9_sentence_68 rfl (by first | exact Or.inl rfl | exact Or.inr rfl) ?_
                exact Or.inr ⟨h1, Or.inr (Or.inl ⟨hb, by rw [hm]; exact hm0, rfl, P, _, rfl, fP, hzP⟩)⟩
            · exact absurd c_54 hb
          · omega
  refine wa_aload_n dX9_sentence_0 rfl ?_
  refine wt_getR dX9_sentence_1 FX9_24 (by assumption) (by assumption) ?_
  refine wa_callVf (ci := 2) dX9_sentence_4 KX2_empty LX9_56 ⟨_, _, rfl, by decide⟩ o157 (hem) (by decide) rfl rfl (Nat.le_of_ble_eq_true rfl) rfl rfl ?_
  refine wa_aload_n dX9_sentence_7 rfl ?_
  refine wa_bipush dX9_sentence_8 rfl ?_
  refine wa_callV (ci := 9) dX9_sentence_10 KX9_readSide LX9_59 ⟨_, _, rfl, by decide⟩ o155 (hrs') (by decide) rfl (Nat.le_of_ble_eq_true rfl) rfl rfl (fun r h' hq => ?_)
  obtain ⟨V, rfl, rfl, fV, hzV⟩ := hq
  exact at13 V (fJ.trans fV.l) hzV
end S63
