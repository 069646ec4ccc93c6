/-! ===== 33: Round.collect ===== -/
abbrev E6 : Type := Int × Int × Int × Int × Int × Int
/-- the FINDINGS to do, as the Findings at 150 hold them -/
def TdOK (cnt : Int) (lr : Nat → Int64) (T : List E6) : Prop := cnt = (T.length : Int) ∧ T.length ≤ 1200 ∧ ∀ (k : Nat) (e : E6), T[k]? = some e → lr k = tmPk e.1 e.2.1 e.2.2.1 e.2.2.2.1 e.2.2.2.2.1 e.2.2.2.2.2 ∧ isDg e.1 ∧ isDg e.2.1 ∧ isDg e.2.2.1 ∧ isDg e.2.2.2.1 ∧ isDg e.2.2.2.2.1 ∧ isDg e.2.2.2.2.2
/-- the RULES: their Patterns, sizes, LEFT's sizes -/
def RulesOK (S : tmS) (I : Nat → Nat → Int) (nr : Nat) (pr szr lfr : Nat → Nat) : Prop := I 1 2 = (nr : Int) ∧ nr ≤ 6 ∧ ∀ r, r < nr → S.2.2.2 8 r = some (pr r) ∧ RuleW S I (pr r) (szr r) (lfr r)
def entOf (I : Nat → Nat → Int) (p lf n : Nat) (r : Int) (q : Int × Int × Int) : E6 := (r, q.1, q.2.1, q.2.2, PlF I p lf q, GnF I p lf n q)
/-- all FINDINGS of RULE r, as they come -/
def ENT (I : Nat → Nat → Int) (pr lfr : Nat → Nat) (n r : Nat) : List E6 := (FNDS I (pr r) (lfr r) n).map (entOf I (pr r) (lfr r) n r)
def notLate (lim : Int) (e : E6) : Bool := decide (e.2.2.2.2.2 ≤ lim)
/-- all that are not LATE of the RULES below r -/
def TDS (I : Nat → Nat → Int) (pr lfr : Nat → Nat) (n : Nat) (lim : Int) (r : Nat) : List E6 := (List.range r).flatMap fun r => (ENT I pr lfr n r).filter (notLate lim)
def nLate (I : Nat → Nat → Int) (pr lfr : Nat → Nat) (n : Nat) (lim : Int) : Nat → Nat
  | 0 => 0
  | r + 1 => nLate I pr lfr n lim r + ((ENT I pr lfr n r).filter (fun e => !notLate lim e)).length
def CacheOK (I : Nat → Nat → Int) (L : Nat → Nat → Int64) (pr lfr : Nat → Nat) (n nr : Nat) : Prop := ∀ r : Nat, r < nr → I 143 3 = (r : Int) → Found I L (pr r) (lfr r) n r
def CoFr (I I' : Nat → Nat → Int) (L L' : Nat → Nat → Int64) : Prop := (∀ a, a ≠ 143 → a ≠ 144 → a ≠ 146 → a ≠ 147 → a ≠ 148 → a ≠ 150 → a ≠ 154 → I' a = I a) ∧ ∀ a, a ≠ 133 → a ≠ 136 → a ≠ 137 → a ≠ 138 → a ≠ 145 → a ≠ 151 → L' a = L a
theorem CoFr.static {I I' : Nat → Nat → Int} {L L' : Nat → Nat → Int64} (h : CoFr I I' L L') {p lf n : Nat} (hp : 192 ≤ p) : FNDS I' p lf n = FNDS I p lf n ∧ PlF I' p lf = PlF I p lf ∧ GnF I' p lf n = GnF I p lf n := by
  have E := h.1
  have e7 := E 7 (by decide) (by decide) (by decide) (by decide) (by decide) (by decide) (by decide)
  have e6 := E 6 (by decide) (by decide) (by decide) (by decide) (by decide) (by decide) (by decide)
  have e134 := E 134 (by decide) (by decide) (by decide) (by decide) (by decide) (by decide) (by decide)
  have e1 := E (p + 1) (by omega) (by omega) (by omega) (by omega) (by omega) (by omega) (by omega)
  have e2 := E (p + 2) (by omega) (by omega) (by omega) (by omega) (by omega) (by omega) (by omega)
  have e3 := E (p + 3) (by omega) (by omega) (by omega) (by omega) (by omega) (by omega) (by omega)
  simp only [FNDS, ENr, PlF, GnF, lsOf, e7, e6, e134, e1, e2, e3, and_self]
theorem TInv.fr {I I' : Nat → Nat → Int} {n : Nat} (h : TInv I n) (e : ∀ a, a < 8 ∨ a = 134 → I' a = I a) : TInv I' n := by
  obtain ⟨h1, h2, h3, h4, h5, h6⟩ := h
  refine ⟨by rw [e 2 (by omega)]; exact h1, h2, ?_, ?_, ?_, ?_⟩
  · rw [e 3 (by omega), e 4 (by omega), e 5 (by omega)]; exact h3
  · rw [e 7 (by omega)]; exact h4
  · rw [e 3 (by omega), e 4 (by omega), e 5 (by omega), e 7 (by omega), e 134 (by omega)]; exact h5
  · rw [e 6 (by omega)]; exact h6
theorem RulesOK.fr {S : tmS} {I I' : Nat → Nat → Int} {nr : Nat} {pr szr lfr : Nat → Nat} (h : RulesOK S I nr pr szr lfr) (e1 : I' 1 = I 1) (e : ∀ a, 192 ≤ a → I' a = I a) : RulesOK S I' nr pr szr lfr :=
  ⟨by rw [e1]; exact h.1, h.2.1, fun r hr => ⟨(h.2.2 r hr).1, (h.2.2 r hr).2.fr e⟩⟩
theorem TdOK.push {cnt : Int} {lr : Nat → Int64} {T : List E6} (h : TdOK cnt lr T) (hl : T.length < 1200) {e : E6} (he : isDg e.1 ∧ isDg e.2.1 ∧ isDg e.2.2.1 ∧ isDg e.2.2.2.1 ∧ isDg e.2.2.2.2.1 ∧ isDg e.2.2.2.2.2) : TdOK ((T.length + 1 : Nat) : Int) (va_up lr T.length (tmPk e.1 e.2.1 e.2.2.1 e.2.2.2.1 e.2.2.2.2.1 e.2.2.2.2.2)) (T ++ [e]) := by
  obtain ⟨h1, h2, h3⟩ := h
  refine ⟨by simp, by simp; omega, fun k e' hk => ?_⟩
  by_cases z : k = T.length
  · subst z
    have : e' = e := by simpa using hk.symm
    subst this
    rw [vup_s]
    exact ⟨rfl, he⟩
  · rw [vup_n z]
    have hlt := (List.getElem?_eq_some_iff.mp hk).1
    simp at hlt
    rw [List.getElem?_append_left (by omega)] at hk
    exact h3 k e' hk
theorem FNDS_len (I : Nat → Nat → Int) (p lf n : Nat) : (FNDS I p lf n).length ≤ 200 := by unfold FNDS; rw [List.length_take]; omega
theorem TDS_s (I : Nat → Nat → Int) (pr lfr : Nat → Nat) (n : Nat) (lim : Int) (r : Nat) : TDS I pr lfr n lim (r + 1) = TDS I pr lfr n lim r ++ (ENT I pr lfr n r).filter (notLate lim) := by
  unfold TDS; rw [List.range_succ, List.flatMap_append]; simp
theorem TDS_len (I : Nat → Nat → Int) (pr lfr : Nat → Nat) (n : Nat) (lim : Int) : ∀ r, (TDS I pr lfr n lim r).length ≤ 200 * r := by
  intro r
  induction r with
  | zero => simp [TDS]
  | succ r ih =>
    rw [TDS_s, List.length_append]
    have h1 := List.length_filter_le (notLate lim) (ENT I pr lfr n r)
    have h2 : (ENT I pr lfr n r).length ≤ 200 := by unfold ENT; rw [List.length_map]; exact FNDS_len _ _ _ _
    omega
theorem nLate_le (I : Nat → Nat → Int) (pr lfr : Nat → Nat) (n : Nat) (lim : Int) : ∀ r, nLate I pr lfr n lim r ≤ 200 * r := by
  intro r
  induction r with
  | zero => simp [nLate]
  | succ r ih =>
    simp only [nLate]
    have h1 := List.length_filter_le (fun e => !notLate lim e) (ENT I pr lfr n r)
    have h2 : (ENT I pr lfr n r).length ≤ 200 := by unfold ENT; rw [List.length_map]; exact FNDS_len _ _ _ _
    omega
section S33
variable {S : tmS} {I : Nat → Nat → Int} {L : Nat → Nat → Int64}
abbrev CoPost (S : tmS) (I : Nat → Nat → Int) (L : Nat → Nat → Int64) (pr lfr : Nat → Nat) (n nr : Nat) (lim : Int) : Option tmV → tmH → Prop := fun q h' => q = none ∧ ∃ I' L', h' = (S, I', L') ∧ CoFr I I' L L' ∧ TdOK (I' 150 1) (L' 151) (TDS I pr lfr n lim nr) ∧ I' 154 = va_up (I 154) 1 (I 154 1 + nLate I pr lfr n lim nr) ∧ CacheOK I' L' pr lfr n nr
/-- what stands at the head of the outer loop, r RULES gone over -/
def CoI (I I' : Nat → Nat → Int) (L L' : Nat → Nat → Int64) (pr lfr : Nat → Nat) (n nr : Nat) (T : List E6) (late : Nat) : Prop := CoFr I I' L L' ∧ TdOK (I' 150 1) (L' 151) T ∧ I' 154 = va_up (I 154) 1 (I 154 1 + late) ∧ CacheOK I' L' pr lfr n nr
set_option maxRecDepth 20000 in
set_option maxHeartbeats 2000000 in
theorem collect_inner (hL : LX S) {n nr : Nat} {pr szr lfr : Nat → Nat} (hrk : RulesOK S I nr pr szr lfr) (lim : Int) (hlim : 0 ≤ lim ∧ lim ≤ 9) (hc4 : 0 ≤ I 154 1 ∧ I 154 1 ≤ 100000) (r : Nat) (hr : r < nr) (Q : Option tmV → tmH → Prop) :
    ∀ (m k : Nat) (I' : Nat → Nat → Int) (L' : Nat → Nat → Int64), k + m = (FNDS I (pr r) (lfr r) n).length → CoI I I' L L' pr lfr n nr (TDS I pr lfr n lim r ++ ((ENT I pr lfr n r).take k).filter (notLate lim)) (nLate I pr lfr n lim r + (((ENT I pr lfr n r).take k).filter (fun e => !notLate lim e)).length) → I' 143 3 = (r : Int) →
    (∀ (I2 : Nat → Nat → Int) (L2 : Nat → Nat → Int64) (x : Option tmV), CoI I I2 L L2 pr lfr n nr (TDS I pr lfr n lim (r + 1)) (nLate I pr lfr n lim (r + 1)) → tmW kX3_collect 9 0 0 81 [some (tR 149), some (tI lim), some (tI r), some (tR 144), x] [] (S, I2, L2) Q) →
    tmW kX3_collect 9 0 0 33 [some (tR 149), some (tI lim), some (tI r), some (tR 144), some (tI k)] [] (S, I', L') Q := by
  intro m
  have o149 := oX149 hL
  have r149_0 := rX149_0 hL
  have r149_1 := rX149_1 hL
  have r149_2 := rX149_2 hL
  have r149_3 := rX149_3 hL
  have r149_4 := rX149_4 hL
  have r149_5 := rX149_5 hL
  have r149_6 := rX149_6 hL
  have r149_7 := rX149_7 hL
  have o144 := oX144 hL
  have r144_0 := rX144_0 hL
  have o145 := oX145 hL
  have o150 := oX150 hL
  have r150_0 := rX150_0 hL
  have o151 := oX151 hL
  have o154 := oX154 hL
  have hf1 : LFin S 144 200 := ⟨o144, r144_0, o145⟩
  have hf2 : LFin S 150 1200 := ⟨o150, r150_0, o151⟩
  have hpr := (hrk.2.2 r hr).2.1
  have hElen : (ENT I pr lfr n r).length = (FNDS I (pr r) (lfr r) n).length := by unfold ENT; rw [List.length_map]
  have hTl := TDS_len I pr lfr n lim r
  have hNl := nLate_le I pr lfr n lim r
  have hF200 := FNDS_len I (pr r) (lfr r) n
  have hnr6 := hrk.2.1
  induction m with
  | zero =>
    intro k I' L' hkm hi h143 kk
    obtain ⟨c1, c2, c3, c4⟩ := id hi
    have hfd := c4 r hr h143
    obtain ⟨s1, s2, s3⟩ := c1.static (lf := lfr r) (n := n) hpr
    rw [Found, s1, s2, s3] at hfd
    have hcnt := hfd.1
    refine wt_ir (fun hI => ?_)
    refine wa_iload dX3_collect_33 rfl ?_
    refine wa_aload_n dX3_collect_35 rfl ?_
    refine wt_getI dX3_collect_36 FX3_58 (by assumption) ?_
    try rw [hcnt]
    refine wa_icmp_ge 81 dX3_collect_39 (by decide) (by exact ⟨by omega, by omega⟩) (by exact ⟨by omega, by omega⟩) (fun c_39 => ?_) (fun c_39 => ?_)
    · refine kk I' L' _ ?_
      rw [List.take_of_length_le (by omega)] at hi
      rw [TDS_s]
      exact hi
    · omega
  | succ m ih =>
    intro k I' L' hkm hi h143 kk
    obtain ⟨c1, c2, c3, c4⟩ := id hi
    have hfd := c4 r hr h143
    obtain ⟨s1, s2, s3⟩ := c1.static (lf := lfr r) (n := n) hpr
    rw [Found, s1, s2, s3] at hfd
    have hcnt := hfd.1
    obtain ⟨q, hq⟩ : ∃ q, (FNDS I (pr r) (lfr r) n)[k]? = some q := ⟨_, List.getElem?_eq_getElem (by omega)⟩
    obtain ⟨g1, g2, g3, g4, g5, g6⟩ := hfd.2.2 k q hq
    have hEk : (ENT I pr lfr n r)[k]? = some (entOf I (pr r) (lfr r) n r q) := by unfold ENT; rw [List.getElem?_map, hq]; rfl
    have htk : (ENT I pr lfr n r).take (k + 1) = (ENT I pr lfr n r).take k ++ [entOf I (pr r) (lfr r) n r q] := by
      rw [List.take_succ, hEk]; rfl
    have d0 : isDg (r : Int) := ⟨by omega, by omega⟩
    have hlen1 := List.length_filter_le (notLate lim) ((ENT I pr lfr n r).take k)
    have hlen2 := List.length_filter_le (fun e => !notLate lim e) ((ENT I pr lfr n r).take k)
    rw [List.length_take] at hlen1 hlen2
    have hT12 : (TDS I pr lfr n lim r ++ ((ENT I pr lfr n r).take k).filter (notLate lim)).length < 1200 := by rw [List.length_append]; omega
    have hlate := c_isLate (I := I') (L := L') hf1 hcnt (by omega) k (by omega) lim ⟨by omega, by omega⟩ d0 g2 g3 g4 g5 g6 g1
    refine wt_ir (fun hI => ?_)
    by_cases hl : lim < GnF I (pr r) (lfr r) n q
    · rw [if_pos hl] at hlate
      have hnl : notLate lim (entOf I (pr r) (lfr r) n r q) = false := by unfold notLate entOf; simpa using hl
      have e154 : I' 154 1 = I 154 1 + ((nLate I pr lfr n lim r + (((ENT I pr lfr n r).take k).filter (fun e => !notLate lim e)).length : Nat) : Int) := by rw [c3, vup_s]
      have nx := ih (k + 1) (va_up I' 154 (va_up (I' 154) 1 (I' 154 1 + 1))) L' (by omega) ⟨⟨fun a a1 a2 a3 a4 a5 a6 a7 => by rw [vup_n a7]; exact c1.1 a a1 a2 a3 a4 a5 a6 a7, c1.2⟩, by rw [vup_n (by decide), htk, List.filter_append]; simp only [List.filter_cons, hnl, Bool.false_eq_true, if_false, List.filter_nil, List.append_nil]; exact c2, by rw [vup_s, e154, c3, vup_vup, htk, List.filter_append]; simp only [List.filter_cons, hnl, Bool.not_false, if_true, List.filter_nil, List.length_append, List.length_cons, List.length_nil]; congr 1; omega, fun r' hr' e => by
        rw [vup_n (by decide)] at e
        have := c4 r' hr' e
        unfold Found at this ⊢
        rw [vup_n (by decide)]
        have hco : CoFr I' (va_up I' 154 (va_up (I' 154) 1 (I' 154 1 + 1))) L' L' := ⟨fun a _ _ _ _ _ _ a7 => vup_n a7, fun _ _ _ _ _ _ _ => rfl⟩
        obtain ⟨t1, t2, t3⟩ := hco.static (lf := lfr r') (n := n) (hrk.2.2 r' hr').2.1
        rw [t1, t2, t3]; exact this⟩ (by rw [vup_n (by decide)]; exact h143) kk
      refine wa_iload dX3_collect_33 rfl ?_
      refine wa_aload_n dX3_collect_35 rfl ?_
      refine wt_getI dX3_collect_36 FX3_58 (by assumption) ?_
      try try rw [hcnt]
      refine wa_icmp_ge 81 dX3_collect_39 (by decide) (by exact ⟨by omega, by omega⟩) (by exact ⟨by omega, by omega⟩) (fun c_39 => ?_) (fun c_39 => ?_)
      · omega
      · refine wa_aload_n dX3_collect_42 rfl ?_
        refine wa_iload dX3_collect_43 rfl ?_
        refine wa_iload_n dX3_collect_45 rfl ?_
        refine wa_callVf (ci := 1) dX3_collect_46 KX1_isLate LX3_80 ⟨_, _, rfl, by decide⟩ o144 (hlate) (by decide) rfl rfl (Nat.le_of_ble_eq_true rfl) rfl rfl ?_
        refine wa_if_eq 65 dX3_collect_49 (by decide) (by exact ⟨by omega, by omega⟩) (fun c_49 => ?_) (fun c_49 => ?_)
        · omega
        · refine wa_aload_n dX3_collect_52 rfl ?_
          refine wt_getR dX3_collect_53 FX3_27 (by assumption) (by assumption) ?_
          refine wa_iconst dX3_collect_56 ?_
          refine wa_dup2 dX3_collect_57 rfl rfl ?_
          refine wt_iald 1 dX3_collect_58 (by assumption) rfl (by omega) ?_
          try try rw [hcnt]
          refine wa_iconst dX3_collect_59 ?_
          refine wa_iadd dX3_collect_60 ?_
          refine wt_iast 1 dX3_collect_61 (by assumption) rfl (by omega) (by rw [e154]; exact ⟨by omega, by omega⟩) ?_
          refine wa_goto 75 dX3_collect_62 (by decide) ?_
          refine wa_iinc dX3_collect_75 rfl (by decide) ?_
          refine wa_goto 33 dX3_collect_78 (by decide) ?_
          exact nx
    · rw [if_neg hl] at hlate
      have hnl : notLate lim (entOf I (pr r) (lfr r) n r q) = true := by unfold notLate entOf; simp only [decide_eq_true_eq]; exact Int.not_lt.mp hl
      have hadd := c_FaddFrom (I := I') (L := L') hf2 c2.1 hT12 hf1 hcnt (by omega) k (by omega)
      rw [show L' (144 + 1) k = tmPk r q.1 q.2.1 q.2.2 (PlF I (pr r) (lfr r) q) (GnF I (pr r) (lfr r) n q) from g1] at hadd
      have hpush := c2.push hT12 (e := entOf I (pr r) (lfr r) n r q) ⟨d0, g2, g3, g4, g5, g6⟩
      have nx := ih (k + 1) (va_up I' 150 (va_up (I' 150) 1 (((TDS I pr lfr n lim r ++ ((ENT I pr lfr n r).take k).filter (notLate lim)).length + 1 : Nat) : Int))) (va_up L' 151 (va_up (L' 151) (TDS I pr lfr n lim r ++ ((ENT I pr lfr n r).take k).filter (notLate lim)).length (tmPk r q.1 q.2.1 q.2.2 (PlF I (pr r) (lfr r) q) (GnF I (pr r) (lfr r) n q)))) (by omega) ⟨⟨fun a a1 a2 a3 a4 a5 a6 a7 => by rw [vup_n a6]; exact c1.1 a a1 a2 a3 a4 a5 a6 a7, fun a a1 a2 a3 a4 a5 a6 => by rw [vup_n a6]; exact c1.2 a a1 a2 a3 a4 a5 a6⟩, by
        rw [vup_s, vup_s, vup_s, htk, List.filter_append]
        simp only [List.filter_cons, hnl, if_true, List.filter_nil]
        rw [← List.append_assoc]
        exact hpush, by rw [vup_n (by decide), htk, List.filter_append]; simp only [List.filter_cons, hnl, Bool.not_true, Bool.false_eq_true, if_false, List.filter_nil, List.append_nil]; exact c3, fun r' hr' e => by
        rw [vup_n (by decide)] at e
        have := c4 r' hr' e
        unfold Found at this ⊢
        rw [vup_n (by decide), vup_n (by decide)]
        have hco : CoFr I' (va_up I' 150 (va_up (I' 150) 1 (((TDS I pr lfr n lim r ++ ((ENT I pr lfr n r).take k).filter (notLate lim)).length + 1 : Nat) : Int))) L' L' := ⟨fun a _ _ _ _ _ a6 _ => vup_n a6, fun _ _ _ _ _ _ _ => rfl⟩
        obtain ⟨t1, t2, t3⟩ := hco.static (lf := lfr r') (n := n) (hrk.2.2 r' hr').2.1
        rw [t1, t2, t3]; exact this⟩ (by rw [vup_n (by decide)]; exact h143) kk
      refine wa_iload dX3_collect_33 rfl ?_
      refine wa_aload_n dX3_collect_35 rfl ?_
      refine wt_getI dX3_collect_36 FX3_58 (by assumption) ?_
      try try rw [hcnt]
      refine wa_icmp_ge 81 dX3_collect_39 (by decide) (by exact ⟨by omega, by omega⟩) (by exact ⟨by omega, by omega⟩) (fun c_39 => ?_) (fun c_39 => ?_)
      · omega
      · refine wa_aload_n dX3_collect_42 rfl ?_
        refine wa_iload dX3_collect_43 rfl ?_
        refine wa_iload_n dX3_collect_45 rfl ?_
        refine wa_callVf (ci := 1) dX3_collect_46 KX1_isLate LX3_80 ⟨_, _, rfl, by decide⟩ o144 (hlate) (by decide) rfl rfl (Nat.le_of_ble_eq_true rfl) rfl rfl ?_
        refine wa_if_eq 65 dX3_collect_49 (by decide) (by exact ⟨by omega, by omega⟩) (fun c_49 => ?_) (fun c_49 => ?_)
        · refine wa_aload_n dX3_collect_65 rfl ?_
          refine wt_getR dX3_collect_66 FX3_16 (by assumption) (by assumption) ?_
          refine wa_aload_n dX3_collect_69 rfl ?_
          refine wa_iload dX3_collect_70 rfl ?_
          refine wa_callVf (ci := 1) dX3_collect_72 KX1_addFrom LX3_84 ⟨_, _, rfl, by decide⟩ o150 (hadd) (by decide) rfl rfl (Nat.le_of_ble_eq_true rfl) rfl rfl ?_
          refine wa_iinc dX3_collect_75 rfl (by decide) ?_
          refine wa_goto 33 dX3_collect_78 (by decide) ?_
          exact nx
        · omega
end S33
