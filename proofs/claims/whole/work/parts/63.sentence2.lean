/-! ===== 63: Text.sentence, walked ===== -/
theorem TxL.ts {I K : Nat → Nat → Int} (h : TxL I K) (n : Nat) : tsOf K n = tsOf I n := by
  simp only [tsOf, h.at' (a := 3) (by omega), h.at' (a := 4) (by omega), h.at' (a := 5) (by omega), h.at' (a := 6) (by omega), h.at' (a := 7) (by omega)]
theorem ZH.rows {K : Nat → Nat → Int} {dp : Nat} {Z : ZS} (h : ZH K dp Z) : K 158 = Z.2.1 ∧ K 159 = Z.2.2.1 ∧ K 160 = Z.2.2.2.1 ∧ K 161 = Z.2.2.2.2.1 := by
  obtain ⟨rfl, _⟩ := h
  exact ⟨rfl, rfl, rfl, rfl⟩
section S63
variable {S : tmS} {I : Nat → Nat → Int} {L : Nat → Nat → Int64}
/-- termSentence, where a sentence calls it -/
theorem ts_call (hL : LX S) {n nb p0 sz lf p dp : Nat} {K : Nat → Nat → Int} {Z : ZS} (hn : I 2 0 = (n : Int)) (hX : TsOK (tsOf I n)) (hnb : I 155 1 = (nb : Int)) (hnb1 : nb ≤ 120) (f : TxL I K) (hz : ZH K dp Z) (hi : ZI nb 0 Z) (hwf : WFN Z.1 Z.2.1 Z.2.2.1 Z.2.2.2.1) (hlf : K 157 1 = (lf : Int)) (h1 : 1 ≤ lf) (h2 : lf ≤ Z.1) (hsz : sz = Z.1) (hp : p = Z.2.2.2.2.2.2.2) : tmC yX9_termSentence kX9_termSentence 7 0 0 [tR 155] (S, K, L) (TsPost S K L n nb sz lf p) := by
  subst hsz
  subst hp
  obtain ⟨r1, r2, r3, _⟩ := hz.rows
  have := hi.1
  have := hi.2.1
  exact c_termSentence hL (by rw [f.at' (by omega)]; exact hn) (by rw [f.ts]; exact hX) hz.2.1 hlf h1 h2 (by omega) (by rw [r1, r2, r3]; exact hwf) (by rw [f.2 1 (by decide) (by decide)]; exact hnb) hnb1 hz.2.2.1 hi.1
set_option maxRecDepth 20000 in
set_option maxHeartbeats 4000000 in
theorem c_sentence (hL : LX S) {n nb nr p dp : Nat} (hn : I 2 0 = (n : Int)) (hX : TsOK (tsOf I n)) (hnb : I 155 1 = (nb : Int)) (hnb1 : nb ≤ 120) (hp : I 155 8 = (p : Int)) (hpn : p ≤ nb) (hdp : I 155 7 = (dp : Int)) (hnr : I 1 2 = (nr : Int)) (hnr6 : nr ≤ 6) :
    tmC yX9_sentence kX9_sentence 8 5 486 [tR 155] (S, I, L) (SnPost S I L n nb nr p) := by
  refine tmC.mk (lv := [some (tR 155), none]) 1 ⟨rfl, by decide +kernel, by decide⟩ rfl rfl ?_
  have o155 := oX155 hL
  have r155_0 := rX155_0 hL
  have r155_2 := rX155_2 hL
  have r155_3 := rX155_3 hL
  have r155_4 := rX155_4 hL
  have r155_5 := rX155_5 hL
  have r155_6 := rX155_6 hL
  have o157 := oX157 hL
  have r157_2 := rX157_2 hL
  have r157_3 := rX157_3 hL
  have r157_4 := rX157_4 hL
  have r157_5 := rX157_5 hL
  have o158 := oX158 hL
  have o159 := oX159 hL
  have o160 := oX160 hL
  have o161 := oX161 hL
  have hpat : LPat S 157 120 := ⟨o157, r157_2, r157_3, r157_4, r157_5, o158, o159, o160, o161⟩
  have hem := c_Pempty (I := I) (L := L) hpat
  generalize hJ : va_up I 157 (va_up (va_up (I 157) 0 0) 1 0) = J at hem
  have gJ : ∀ a, a ≠ 157 → J a = I a := fun a ha => by rw [← hJ]; exact vup_n ha
  have j0 : J 157 0 = ((0 : Nat) : Int) := by rw [← hJ, vup_s, vup_n (by decide), vup_s]; rfl
  have fJ : TxL I J := ⟨fun a _ a2 _ _ _ _ _ _ => gJ a a2, fun k _ _ => by rw [gJ 155 (by decide)]⟩
  have hzJ : ZH J dp (0, I 158, I 159, I 160, I 161, I 162, I 163, p) := by
    refine ⟨?_, j0, by rw [gJ 155 (by decide)]; exact hp, by rw [gJ 155 (by decide)]; exact hdp⟩
    unfold zOf
    rw [j0, gJ 158 (by decide), gJ 159 (by decide), gJ 160 (by decide), gJ 161 (by decide), gJ 162 (by decide), gJ 163 (by decide), gJ 155 (by decide), hp]
    rfl
  have hrs := c_readSide (I := J) (L := L) hL hnb1 7 (by decide) (by rw [gJ 155 (by decide)]; exact hnb) hzJ ⟨hpn, Nat.zero_le _, fun k hk => by omega⟩
  rw [gJ 156 (by decide)] at hrs
  have hrs' : tmC yX9_readSide kX9_readSide 6 0 0 [tR 155, tI (7 : Nat)] (S, J, L) (CbPost S J L (snL I nb p)) := hrs
  obtain ⟨hzi, htr⟩ := snL_ok (I := I) hpn
  have at13 : ∀ V : Nat → Nat → Int, TxL I V → ZH V (snL I nb p).2.1 (snL I nb p).2.2 → tmW kX9_sentence 8 5 486 13 [some (tR 155), none] [tI (if (snL I nb p).1 = true then 1 else 0)] (S, V, L) (SnPost S I L n nb nr p) := by
    intro V fV hzV
    cases h1 : (snL I nb p).1 with
    | false =>
      rw [if_neg (by decide)]
      refine wa_if_ne 18 dX9_sentence_13 (by decide) (by exact ⟨by omega, by omega⟩) (fun c_13 => ?_) (fun c_13 => ?_)
      · omega
      · refine wa_iconst dX9_sentence_16 ?_
        refine wa_zreturn dX9_sentence_17 rfl (by first | exact Or.inl rfl | exact Or.inr rfl) ?_
        exact Or.inl ⟨h1, rfl, V, _, rfl, fV, hzV⟩
    | true =>
      rw [if_pos rfl]
      obtain ⟨hpos, hsd⟩ := htr h1
      sorry
  refine wa_aload_n dX9_sentence_0 rfl ?_
  refine wt_getR dX9_sentence_1 FX9_24 (by assumption) (by assumption) ?_
  refine wa_callVf (ci := 2) dX9_sentence_4 KX2_empty LX9_56 ⟨_, _, rfl, by decide⟩ o157 (hem) (by decide) rfl rfl (Nat.le_of_ble_eq_true rfl) rfl rfl ?_
  refine wa_aload_n dX9_sentence_7 rfl ?_
  refine wa_bipush dX9_sentence_8 rfl ?_
  refine wa_callV (ci := 9) dX9_sentence_10 KX9_readSide LX9_59 ⟨_, _, rfl, by decide⟩ o155 (hrs') (by decide) rfl (Nat.le_of_ble_eq_true rfl) rfl rfl (fun r h' hq => ?_)
  obtain ⟨V, rfl, rfl, fV, hzV⟩ := hq
  exact at13 V (fJ.trans fV.l) hzV
end S63
