/-! ===== 34: Round.collect, keyOf ===== -/
section S34
variable {S : tmS} {I : Nat → Nat → Int} {L : Nat → Nat → Int64}
theorem LkFr.co {I0 I I' : Nat → Nat → Int} {L0 L L' : Nat → Nat → Int64} (h0 : CoFr I0 I L0 L) (h : LkFr I I' L L') : CoFr I0 I' L0 L' :=
  ⟨fun a a1 a2 a3 a4 a5 a6 a7 => by rw [h.1 a a1 a2 a3 a4 a5]; exact h0.1 a a1 a2 a3 a4 a5 a6 a7, fun a a1 a2 a3 a4 a5 a6 => by rw [h.2 a a1 a2 a3 a4 a5]; exact h0.2 a a1 a2 a3 a4 a5 a6⟩
set_option maxRecDepth 20000 in
set_option maxHeartbeats 2000000 in
theorem collect_outer (hL : LX S) {n nr : Nat} {pr szr lfr : Nat → Nat} (ht : TInv I n) (hrk : RulesOK S I nr pr szr lfr) (lim : Int) (hlim : 0 ≤ lim ∧ lim ≤ 9) (hc4 : 0 ≤ I 154 1 ∧ I 154 1 ≤ 100000) :
    ∀ (m i : Nat) (I' : Nat → Nat → Int) (L' : Nat → Nat → Int64) (x y : Option tmV), i + m = nr → CoI I I' L L' pr lfr n nr (TDS I pr lfr n lim i) (nLate I pr lfr n lim i) →
    tmW kX3_collect 9 0 0 10 [some (tR 149), some (tI lim), some (tI i), x, y] [] (S, I', L') (CoPost S I L pr lfr n nr lim) := by
  intro m
  have o149 := oX149 hL
  have r149_0 := rX149_0 hL
  have r149_1 := rX149_1 hL
  have r149_2 := rX149_2 hL
  have r149_3 := rX149_3 hL
  have r149_4 := rX149_4 hL
  have r149_5 := rX149_5 hL
  have r149_6 := rX149_6 hL
  have r149_7 := rX149_7 hL
  have o144 := oX144 hL
  have r144_0 := rX144_0 hL
  have o145 := oX145 hL
  have o150 := oX150 hL
  have r150_0 := rX150_0 hL
  have o151 := oX151 hL
  have o154 := oX154 hL
  have o143 := oX143 hL
  have r143_0 := rX143_0 hL
  have r143_1 := rX143_1 hL
  have r143_2 := rX143_2 hL
  have r143_4 := rX143_4 hL
  have r143_5 := rX143_5 hL
  have r143_6 := rX143_6 hL
  have o1 := oX1 hL
  have r1_0 := rX1_0 hL
  have r1_1 := rX1_1 hL
  have r1_3 := rX1_3 hL
  have hnr6 := hrk.2.1
  induction m with
  | zero =>
    intro i I' L' x y him hi
    obtain ⟨c1, c2, c3, c4⟩ := id hi
    have e1 : I' 1 = I 1 := c1.1 1 (by decide) (by decide) (by decide) (by decide) (by decide) (by decide) (by decide)
    have e2 : I' 1 2 = (nr : Int) := by rw [e1]; exact hrk.1
    have hin : i = nr := by omega
    subst hin
    refine wa_iload_n dX3_collect_10 rfl ?_
    refine wa_aload_n dX3_collect_11 rfl ?_
    refine wt_getR dX3_collect_12 FX3_30 (by assumption) (by assumption) ?_
    refine wt_getI dX3_collect_15 FX3_71 (by assumption) ?_
    try rw [e2]
    refine wa_icmp_ge 87 dX3_collect_18 (by decide) (by exact ⟨by omega, by omega⟩) (by exact ⟨by omega, by omega⟩) (fun c_18 => ?_) (fun c_18 => ?_)
    · refine wa_return dX3_collect_87 rfl ?_
      exact ⟨rfl, I', L', rfl, c1, c2, c3, c4⟩
    · omega
  | succ m ih =>
    intro i I' L' x y him hi
    obtain ⟨c1, c2, c3, c4⟩ := id hi
    have e1 : I' 1 = I 1 := c1.1 1 (by decide) (by decide) (by decide) (by decide) (by decide) (by decide) (by decide)
    have e2 : I' 1 2 = (nr : Int) := by rw [e1]; exact hrk.1
    have ht' : TInv I' n := ht.fr (fun a ha => c1.1 a (by omega) (by omega) (by omega) (by omega) (by omega) (by omega) (by omega))
    have hrk' : RulesOK S I' nr pr szr lfr := hrk.fr e1 (fun a ha => c1.1 a (by omega) (by omega) (by omega) (by omega) (by omega) (by omega) (by omega))
    have hi1 : i < nr := by omega
    obtain ⟨hp, hw⟩ := hrk'.2.2 i hi1
    have hlk := c_look (L := L') hL ht' e2 hnr6 hi1 hp hw (c4 i hi1)
    have tail : ∀ (I3 : Nat → Nat → Int) (L3 : Nat → Nat → Int64) (x3 : Option tmV), CoI I I3 L L3 pr lfr n nr (TDS I pr lfr n lim (i + 1)) (nLate I pr lfr n lim (i + 1)) → tmW kX3_collect 9 0 0 81 [some (tR 149), some (tI lim), some (tI i), some (tR 144), x3] [] (S, I3, L3) (CoPost S I L pr lfr n nr lim) := by
      intro I3 L3 x3 hi3
      have nx := ih (i + 1) I3 L3 (some (tR 144)) x3 (by omega) hi3
      refine wa_iinc dX3_collect_81 rfl (by decide) ?_
      refine wa_goto 10 dX3_collect_84 (by decide) ?_
      exact nx
    refine wt_ir (fun hI => ?_)
    refine wa_iload_n dX3_collect_10 rfl ?_
    refine wa_aload_n dX3_collect_11 rfl ?_
    refine wt_getR dX3_collect_12 FX3_30 (by assumption) (by assumption) ?_
    refine wt_getI dX3_collect_15 FX3_71 (by assumption) ?_
    try try rw [e2]
    refine wa_icmp_ge 87 dX3_collect_18 (by decide) (by exact ⟨by omega, by omega⟩) (by exact ⟨by omega, by omega⟩) (fun c_18 => ?_) (fun c_18 => ?_)
    · omega
    · refine wa_aload_n dX3_collect_21 rfl ?_
      refine wt_getR dX3_collect_22 FX3_38 (by assumption) (by assumption) ?_
      refine wa_iload_n dX3_collect_25 rfl ?_
      refine wa_callV (ci := 4) dX3_collect_26 KX4_look LX3_76 ⟨_, _, rfl, by decide⟩ o143 (hlk) (by decide) rfl (Nat.le_of_ble_eq_true rfl) rfl rfl (fun r h' hq => ?_)
      obtain ⟨rfl, I2, L2, rfl, hfr, h3, hfd⟩ := hq
      refine wa_astore_n dX3_collect_29 (by decide) ?_
      refine wa_iconst dX3_collect_30 ?_
      refine wa_istore dX3_collect_31 (by decide) ?_
      refine collect_inner (n := n) (L := L) hL hrk lim hlim hc4 i hi1 _ _ 0 I2 L2 (Nat.zero_add _) ?_ h3 ?_
      · refine ⟨LkFr.co c1 hfr, ?_, ?_, ?_⟩
        · rw [List.take_zero, List.filter_nil, List.append_nil, hfr.1 150 (by decide) (by decide) (by decide) (by decide) (by decide), hfr.2 151 (by decide) (by decide) (by decide) (by decide) (by decide)]; exact c2
        · rw [List.take_zero, List.filter_nil, hfr.1 154 (by decide) (by decide) (by decide) (by decide) (by decide)]; exact c3
        · intro r' hr' e
          have : r' = i := by omega
          subst this
          exact hfd
      · intro I3 L3 x3 hi3
        exact tail I3 L3 x3 hi3
theorem c_collect (hL : LX S) {n nr : Nat} {pr szr lfr : Nat → Nat} (ht : TInv I n) (hrk : RulesOK S I nr pr szr lfr) (lim : Int) (hlim : 0 ≤ lim ∧ lim ≤ 9) (hc4 : 0 ≤ I 154 1 ∧ I 154 1 ≤ 100000) (hca : CacheOK I L pr lfr n nr) :
    tmC yX3_collect kX3_collect 9 0 0 [tR 149, tI lim] (S, I, L) (CoPost S I L pr lfr n nr lim) := by
  refine tmC.mk (lv := [some (tR 149), some (tI lim), none, none, none]) 3 ⟨rfl, by decide +kernel, by decide⟩ rfl rfl ?_
  have o149 := oX149 hL
  have r149_0 := rX149_0 hL
  have r149_1 := rX149_1 hL
  have r149_2 := rX149_2 hL
  have r149_3 := rX149_3 hL
  have r149_4 := rX149_4 hL
  have r149_5 := rX149_5 hL
  have r149_6 := rX149_6 hL
  have r149_7 := rX149_7 hL
  have o150 := oX150 hL
  have r150_0 := rX150_0 hL
  have o151 := oX151 hL
  have hco : CoFr I (va_up I 150 (va_up (I 150) 1 0)) L L := ⟨fun a _ _ _ _ _ a6 _ => vup_n a6, fun _ _ _ _ _ _ _ => rfl⟩
  refine wa_aload_n dX3_collect_0 rfl ?_
  refine wt_getR dX3_collect_1 FX3_16 (by assumption) (by assumption) ?_
  refine wa_iconst dX3_collect_4 ?_
  refine wt_putI dX3_collect_5 FX3_58 (WX1_1 _ _) (by assumption) (by first | exact hI _ _ | exact ⟨by omega, by omega⟩ | assumption) ?_
  refine wa_iconst dX3_collect_8 ?_
  refine wa_istore_n dX3_collect_9 (by decide) ?_
  refine collect_outer (I := I) (L := L) hL ht hrk lim hlim hc4 nr 0 (va_up I 150 (va_up (I 150) 1 0)) L none none (by omega) ⟨hco, ?_, ?_, ?_⟩
  · rw [vup_s, vup_s]; exact ⟨rfl, by simp [TDS], fun k e hk => by simp [TDS] at hk⟩
  · rw [vup_n (by decide)]; simp only [nLate]; rw [show I 154 1 + ((0 : Nat) : Int) = I 154 1 by omega, vup_self]
  · intro r' hr' e
    rw [vup_n (by decide)] at e
    have := hca r' hr' e
    unfold Found at this ⊢
    rw [vup_n (by decide)]
    obtain ⟨t1, t2, t3⟩ := hco.static (lf := lfr r') (n := n) (hrk.2.2 r' hr').2.1
    rw [t1, t2, t3]; exact this
end S34
