/-! ===== 43: Round.wouldChange, whole; Findings.countInTime ===== -/
section S43
variable {S : tmS} {I : Nat → Nat → Int} {L : Nat → Nat → Int64}
set_option maxRecDepth 20000 in
set_option maxHeartbeats 2000000 in
theorem would_outer (hL : LX S) {n nr : Nat} {pr szr lfr : Nat → Nat} (ht : TInv I n) (hrk : RulesOK S I nr pr szr lfr) (hrr : RuleRs I nr pr szr lfr) (lim : Int) (hlim : 0 ≤ lim ∧ lim ≤ 9) :
    ∀ (m i : Nat) (I' : Nat → Nat → Int) (L' : Nat → Nat → Int64) (x y : Option tmV), i + m = nr → WcI n I I' L L' → CacheOK I' L' pr lfr n nr → (∀ e ∈ TDS I pr lfr n lim i, ¬ wcE I pr szr lfr n e) →
    tmW kX3_wouldChange 9 0 0 2 [some (tR 149), some (tI lim), some (tI i), x, y] [] (S, I', L') (WcPost S I L pr szr lfr n nr lim) := by
  intro m
  have o149 := oX149 hL
  have r149_0 := rX149_0 hL
  have r149_1 := rX149_1 hL
  have r149_2 := rX149_2 hL
  have r149_3 := rX149_3 hL
  have r149_4 := rX149_4 hL
  have r149_5 := rX149_5 hL
  have r149_6 := rX149_6 hL
  have r149_7 := rX149_7 hL
  have o144 := oX144 hL
  have r144_0 := rX144_0 hL
  have o145 := oX145 hL
  have o143 := oX143 hL
  have r143_0 := rX143_0 hL
  have r143_1 := rX143_1 hL
  have r143_2 := rX143_2 hL
  have r143_4 := rX143_4 hL
  have r143_5 := rX143_5 hL
  have r143_6 := rX143_6 hL
  have o1 := oX1 hL
  have r1_0 := rX1_0 hL
  have r1_1 := rX1_1 hL
  have r1_3 := rX1_3 hL
  have hnr6 := hrk.2.1
  induction m with
  | zero =>
    intro i I' L' x y him hwc hca hno
    have e2 : I' 1 2 = (nr : Int) := by rw [hwc.1 1 (by omega)]; exact hrk.1
    have hin : i = nr := by omega
    subst hin
    refine wa_iload_n dX3_wouldChange_2 rfl ?_
    refine wa_aload_n dX3_wouldChange_3 rfl ?_
    refine wt_getR dX3_wouldChange_4 FX3_30 (by assumption) (by assumption) ?_
    refine wt_getI dX3_wouldChange_7 FX3_71 (by assumption) ?_
    try try rw [e2]
    refine wa_icmp_ge 68 dX3_wouldChange_10 (by decide) (by exact ⟨by omega, by omega⟩) (by exact ⟨by omega, by omega⟩) (fun c_10 => ?_) (fun c_10 => ?_)
    · refine wa_iconst dX3_wouldChange_68 ?_
      refine wa_zreturn dX3_wouldChange_69 rfl (by first | exact Or.inl rfl | exact Or.inr rfl) ?_
      exact ⟨I', L', 0, rfl, rfl, hwc, hca, Or.inr ⟨rfl, hno⟩⟩
    · omega
  | succ m ih =>
    intro i I' L' x y him hwc hca hno
    have e2 : I' 1 2 = (nr : Int) := by rw [hwc.1 1 (by omega)]; exact hrk.1
    have hi : i < nr := by omega
    have ht' := hwc.tinv ht
    have hrk' : RulesOK S I' nr pr szr lfr := hrk.fr (hwc.1 1 (by omega)) (fun a ha => hwc.1 a (by omega))
    obtain ⟨hp, hw⟩ := hrk'.2.2 i hi
    have hlk := c_look (L := L') hL ht' e2 hnr6 hi hp hw (hca i hi)
    have tail : ∀ (I3 : Nat → Nat → Int) (L3 : Nat → Nat → Int64) (x3 : Option tmV), WcI n I I3 L L3 → CacheOK I3 L3 pr lfr n nr → (∀ e ∈ TDS I pr lfr n lim (i + 1), ¬ wcE I pr szr lfr n e) → tmW kX3_wouldChange 9 0 0 62 [some (tR 149), some (tI lim), some (tI i), some (tR 144), x3] [] (S, I3, L3) (WcPost S I L pr szr lfr n nr lim) := by
      intro I3 L3 x3 a b c
      have nx := ih (i + 1) I3 L3 (some (tR 144)) x3 (by omega) a b c
      refine wa_iinc dX3_wouldChange_62 rfl (by decide) ?_
      refine wa_goto 2 dX3_wouldChange_65 (by decide) ?_
      exact nx
    refine wa_iload_n dX3_wouldChange_2 rfl ?_
    refine wa_aload_n dX3_wouldChange_3 rfl ?_
    refine wt_getR dX3_wouldChange_4 FX3_30 (by assumption) (by assumption) ?_
    refine wt_getI dX3_wouldChange_7 FX3_71 (by assumption) ?_
    try try rw [e2]
    refine wa_icmp_ge 68 dX3_wouldChange_10 (by decide) (by exact ⟨by omega, by omega⟩) (by exact ⟨by omega, by omega⟩) (fun c_10 => ?_) (fun c_10 => ?_)
    · omega
    · refine wa_aload_n dX3_wouldChange_13 rfl ?_
      refine wt_getR dX3_wouldChange_14 FX3_38 (by assumption) (by assumption) ?_
      refine wa_iload_n dX3_wouldChange_17 rfl ?_
      refine wa_callV (ci := 4) dX3_wouldChange_18 KX4_look LX3_76 ⟨_, _, rfl, by decide⟩ o143 (hlk) (by decide) rfl (Nat.le_of_ble_eq_true rfl) rfl rfl (fun r h' hq => ?_)
      obtain ⟨rfl, I2, L2, rfl, hfr, h3, hfd⟩ := hq
      refine wa_astore_n dX3_wouldChange_21 (by decide) ?_
      refine wa_iconst dX3_wouldChange_22 ?_
      refine wa_istore dX3_wouldChange_23 (by decide) ?_
      refine would_inner (n := n) (L := L) hL ht hrk hrr lim hlim i hi _ 0 I2 L2 (Nat.zero_add _) (hwc.trans (hfr.wc ht'.1)) ?_ h3 ?_ tail
      · intro r' hr' e
        have : r' = i := by omega
        subst this
        exact hfd
      · rw [List.take_zero, List.filter_nil, List.append_nil]; exact hno
theorem c_wouldChange (hL : LX S) {n nr : Nat} {pr szr lfr : Nat → Nat} (ht : TInv I n) (hrk : RulesOK S I nr pr szr lfr) (hrr : RuleRs I nr pr szr lfr) (lim : Int) (hlim : 0 ≤ lim ∧ lim ≤ 9) (hca : CacheOK I L pr lfr n nr) :
    tmC yX3_wouldChange kX3_wouldChange 9 0 0 [tR 149, tI lim] (S, I, L) (WcPost S I L pr szr lfr n nr lim) := by
  refine tmC.mk (lv := [some (tR 149), some (tI lim), none, none, none]) 3 ⟨rfl, by decide +kernel, by decide⟩ rfl rfl ?_
  have h0 := would_outer (I := I) (L := L) hL ht hrk hrr lim hlim nr 0 I L none none (by omega) (WcI.rfl' ht.1) hca (fun e he => by simp [TDS] at he)
  refine wa_iconst dX3_wouldChange_0 ?_
  refine wa_istore_n dX3_wouldChange_1 (by decide) ?_
  exact h0
/-- how many FINDINGS are in time -/
def nInT (lim : Int) (G : Int × Int × Int → Int) (T : List (Int × Int × Int)) : Nat := T.countP (fun q => decide (G q ≤ lim))
set_option maxRecDepth 20000 in
theorem inTime_loop (hL : LX S) {rr : Int} (hrr : isDg rr) {P G : Int × Int × Int → Int} {T : List (Int × Int × Int)} (hf : FnOK (I 144 1) (L 145) rr P G T) (lim : Int) (hlim : inR lim) :
    ∀ (m k : Nat) (c : Nat), k + m = T.length → c = nInT lim G (T.take k) →
    tmW kX1_countInTime 3 0 0 4 [some (tR 144), some (tI lim), some (tI c), some (tI k)] [] (S, I, L) (tmF (some (tI (nInT lim G T : Nat))) (S, I, L)) := by
  intro m
  have o144 := oX144 hL
  have r144_0 := rX144_0 hL
  have o145 := oX145 hL
  have hf1 : LFin S 144 200 := ⟨o144, r144_0, o145⟩
  obtain ⟨hcnt, h200, hat⟩ := hf
  induction m with
  | zero =>
    intro k c hkm hc
    rw [List.take_of_length_le (by omega)] at hc
    have hcl := List.countP_le_length (p := fun q => decide (G q ≤ lim)) (l := T)
    refine wa_iload_n dX1_countInTime_4 rfl ?_
    refine wa_aload_n dX1_countInTime_5 rfl ?_
    refine wt_getI dX1_countInTime_6 FX1_9 (by assumption) ?_
    try try rw [hcnt]
    refine wa_icmp_ge 30 dX1_countInTime_9 (by decide) (by exact ⟨by omega, by omega⟩) (by exact ⟨by omega, by omega⟩) (fun c_9 => ?_) (fun c_9 => ?_)
    · refine wa_iload_n dX1_countInTime_30 rfl ?_
      refine wa_ireturn dX1_countInTime_31 rfl ?_
      rw [hc]; exact ⟨rfl, rfl⟩
    · omega
  | succ m ih =>
    intro k c hkm hc
    obtain ⟨q, hq⟩ : ∃ q, T[k]? = some q := ⟨_, List.getElem?_eq_getElem (by omega)⟩
    obtain ⟨g1, g2, g3, g4, g5, g6⟩ := hat k q hq
    have htk : T.take (k + 1) = T.take k ++ [q] := by rw [List.take_succ, hq]; rfl
    have hlate := c_isLate (I := I) (L := L) hf1 hcnt (by omega) k (by omega) lim hlim hrr g2 g3 g4 g5 g6 g1
    have hcl := List.countP_le_length (p := fun q => decide (G q ≤ lim)) (l := T.take k)
    rw [List.length_take] at hcl
    have hc2 : c ≤ 200 := by rw [hc]; unfold nInT; omega
    by_cases hl : lim < G q
    · rw [if_pos hl] at hlate
      have nx := ih (k + 1) c (by omega) (by rw [htk, hc]; unfold nInT; rw [List.countP_append]; simp [Int.not_le.mpr hl])
      refine wa_iload_n dX1_countInTime_4 rfl ?_
      refine wa_aload_n dX1_countInTime_5 rfl ?_
      refine wt_getI dX1_countInTime_6 FX1_9 (by assumption) ?_
      try try rw [hcnt]
      refine wa_icmp_ge 30 dX1_countInTime_9 (by decide) (by exact ⟨by omega, by omega⟩) (by exact ⟨by omega, by omega⟩) (fun c_9 => ?_) (fun c_9 => ?_)
      · omega
      · refine wa_aload_n dX1_countInTime_12 rfl ?_
        refine wa_iload_n dX1_countInTime_13 rfl ?_
        refine wa_iload_n dX1_countInTime_14 rfl ?_
        refine wa_callVf (ci := 1) dX1_countInTime_15 KX1_isLate LX1_34 ⟨_, _, rfl, by decide⟩ o144 (hlate) (by decide) rfl rfl (Nat.le_of_ble_eq_true rfl) rfl rfl ?_
        refine wa_if_ne 24 dX1_countInTime_18 (by decide) (by exact ⟨by omega, by omega⟩) (fun c_18 => ?_) (fun c_18 => ?_)
        · refine wa_iinc dX1_countInTime_24 rfl (by decide) ?_
          refine wa_goto 4 dX1_countInTime_27 (by decide) ?_
          exact nx
        · omega
    · rw [if_neg hl] at hlate
      have nx := ih (k + 1) (c + 1) (by omega) (by rw [htk, hc]; unfold nInT; rw [List.countP_append]; simp [Int.not_lt.mp hl])
      refine wa_iload_n dX1_countInTime_4 rfl ?_
      refine wa_aload_n dX1_countInTime_5 rfl ?_
      refine wt_getI dX1_countInTime_6 FX1_9 (by assumption) ?_
      try try rw [hcnt]
      refine wa_icmp_ge 30 dX1_countInTime_9 (by decide) (by exact ⟨by omega, by omega⟩) (by exact ⟨by omega, by omega⟩) (fun c_9 => ?_) (fun c_9 => ?_)
      · omega
      · refine wa_aload_n dX1_countInTime_12 rfl ?_
        refine wa_iload_n dX1_countInTime_13 rfl ?_
        refine wa_iload_n dX1_countInTime_14 rfl ?_
        refine wa_callVf (ci := 1) dX1_countInTime_15 KX1_isLate LX1_34 ⟨_, _, rfl, by decide⟩ o144 (hlate) (by decide) rfl rfl (Nat.le_of_ble_eq_true rfl) rfl rfl ?_
        refine wa_if_ne 24 dX1_countInTime_18 (by decide) (by exact ⟨by omega, by omega⟩) (fun c_18 => ?_) (fun c_18 => ?_)
        · omega
        · refine wa_iinc dX1_countInTime_21 rfl (by decide) ?_
          refine wa_iinc dX1_countInTime_24 rfl (by decide) ?_
          refine wa_goto 4 dX1_countInTime_27 (by decide) ?_
          exact nx
theorem c_countInTime (hL : LX S) {rr : Int} (hrr : isDg rr) {P G : Int × Int × Int → Int} {T : List (Int × Int × Int)} (hf : FnOK (I 144 1) (L 145) rr P G T) (lim : Int) (hlim : inR lim) :
    tmC yX1_countInTime kX1_countInTime 3 0 0 [tR 144, tI lim] (S, I, L) (tmF (some (tI (nInT lim G T : Nat))) (S, I, L)) := by
  refine tmC.mk (lv := [some (tR 144), some (tI lim), none, none]) 2 ⟨rfl, by decide +kernel, by decide⟩ rfl rfl ?_
  have h0 := inTime_loop (I := I) (L := L) hL hrr hf lim hlim T.length 0 0 (by omega) (by simp [nInT])
  refine wa_iconst dX1_countInTime_0 ?_
  refine wa_istore_n dX1_countInTime_1 (by decide) ?_
  refine wa_iconst dX1_countInTime_2 ?_
  refine wa_istore_n dX1_countInTime_3 (by decide) ?_
  exact h0
end S43
