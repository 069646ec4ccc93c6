/-! ===== 42: Round.wouldChange ===== -/
theorem EN_ho {lf n set : Nat} {ho ho' pl sg on ot : Nat → Int} (h : ∀ t, t < n → ho' t = ho t) : ∀ (k : Nat) (ch : Nat → Int), EN lf n set ho' pl sg on ot k ch = EN lf n set ho pl sg on ot k ch := by
  intro k
  induction k with
  | zero => intro ch; rfl
  | succ k ih =>
    intro ch
    simp only [EN]
    split
    · have : ∀ (l : List Nat), (∀ c ∈ l, c < n) → (l.flatMap fun c => if ho' c = (c : Int) then EN lf n set ho' pl sg on ot k (va_up ch (2 - k) (c : Int)) else []) = l.flatMap fun c => if ho c = (c : Int) then EN lf n set ho pl sg on ot k (va_up ch (2 - k) (c : Int)) else [] := by
        intro l
        induction l with
        | nil => intro _; rfl
        | cons a l ih2 =>
          intro hl
          rw [List.flatMap_cons, List.flatMap_cons, ih2 (fun c hc => hl c (by simp [hc])), h a (hl a (by simp)), ih]
      exact this _ (fun c hc => List.mem_range.mp hc)
    · exact ih _
theorem gnRun_ho {n : Nat} {ho ho' ge ge' : Nat → Int} (h : ∀ t, t < n → ho' t = ho t ∧ ge' t = ge t) : ∀ (k t : Nat) (c : Nat → Int), t + k ≤ n → gnRun ho' ge' k t c = gnRun ho ge k t c := by
  intro k
  induction k with
  | zero => intro t c _; rfl
  | succ k ih =>
    intro t c htk
    obtain ⟨a, b⟩ := h t (by omega)
    simp only [gnRun]
    rw [a, b, ih (t + 1) _ (by omega)]
/-- the same TERMS, another heap -/
def WcI (n : Nat) (I I' : Nat → Nat → Int) (L L' : Nat → Nat → Int64) : Prop := (∀ a, (a < 2 ∨ (8 ≤ a ∧ a < 141) ∨ a = 145 ∨ 149 ≤ a) → I' a = I a) ∧ I' 2 0 = (n : Int) ∧ (∀ a, 3 ≤ a → a ≤ 7 → ∀ t, t < n → I' a t = I a t) ∧ ∀ a, a ≠ 133 → a ≠ 136 → a ≠ 137 → a ≠ 138 → a ≠ 145 → L' a = L a
theorem WcI.rfl' {n : Nat} {I : Nat → Nat → Int} {L : Nat → Nat → Int64} (h : I 2 0 = (n : Int)) : WcI n I I L L := ⟨fun _ _ => rfl, h, fun _ _ _ _ _ => rfl, fun _ _ _ _ _ _ => rfl⟩
theorem WcI.trans {n : Nat} {I J K : Nat → Nat → Int} {L M N : Nat → Nat → Int64} (h : WcI n I J L M) (g : WcI n J K M N) : WcI n I K L N := ⟨fun a ha => by rw [g.1 a ha, h.1 a ha], g.2.1, fun a a1 a2 t ht => by rw [g.2.2.1 a a1 a2 t ht, h.2.2.1 a a1 a2 t ht], fun a a1 a2 a3 a4 a5 => by rw [g.2.2.2 a a1 a2 a3 a4 a5, h.2.2.2 a a1 a2 a3 a4 a5]⟩
theorem WcI.found {n : Nat} {I I' : Nat → Nat → Int} {L L' : Nat → Nat → Int64} (h : WcI n I I' L L') {p lf : Nat} (hp : 192 ≤ p) : FNDS I' p lf n = FNDS I p lf n ∧ PlF I' p lf = PlF I p lf ∧ GnF I' p lf n = GnF I p lf n := by
  have e134 := h.1 134 (by omega)
  have e1 := h.1 (p + 1) (by omega)
  have e2 := h.1 (p + 2) (by omega)
  have e3 := h.1 (p + 3) (by omega)
  have hls : lsOf I' n = lsOf I n := gnRun_ho (fun t ht => ⟨h.2.2.1 7 (by decide) (by decide) t ht, h.2.2.1 6 (by decide) (by decide) t ht⟩) n 0 _ (by omega)
  refine ⟨?_, ?_, ?_⟩
  · simp only [FNDS, ENr, e134, e1, e2, e3]
    rw [EN_ho (fun t ht => h.2.2.1 7 (by decide) (by decide) t ht)]
  · simp only [PlF, e134, e1, e2, e3]
  · show fGn lf (lsOf I' n) (I' 134) (I' (p + 1)) (I' (p + 2)) (I' (p + 3)) = fGn lf (lsOf I n) (I 134) (I (p + 1)) (I (p + 2)) (I (p + 3))
    rw [hls, e134, e1, e2, e3]
theorem WcI.tinv {n : Nat} {I I' : Nat → Nat → Int} {L L' : Nat → Nat → Int64} (h : WcI n I I' L L') (ht : TInv I n) : TInv I' n := by
  obtain ⟨h1, h2, h3, h4, h5, h6⟩ := ht
  obtain ⟨g1, g2, g3, g4⟩ := h
  have e : ∀ t, t < n → I' 3 t = I 3 t ∧ I' 4 t = I 4 t ∧ I' 5 t = I 5 t ∧ I' 7 t = I 7 t := fun t ht => ⟨g3 3 (by decide) (by decide) t ht, g3 4 (by decide) (by decide) t ht, g3 5 (by decide) (by decide) t ht, g3 7 (by decide) (by decide) t ht⟩
  refine ⟨g2, h2, h3.row (fun t ht => ⟨(e t ht).1, (e t ht).2.1, (e t ht).2.2.1⟩), h4.row (fun t ht => (e t ht).2.2.2), ?_, fun t ht => ?_⟩
  · rw [g1 134 (by omega)]; exact h5.row e
  · rw [g3 6 (by decide) (by decide) t ht]; exact h6 t ht
theorem WcI.ts {n : Nat} {I I' : Nat → Nat → Int} {L L' : Nat → Nat → Int64} (h : WcI n I I' L L') : TsEq (tsOf I n) (tsOf I' n) := ⟨rfl, fun t ht => ⟨h.2.2.1 3 (by decide) (by decide) t ht, h.2.2.1 4 (by decide) (by decide) t ht, h.2.2.1 5 (by decide) (by decide) t ht, h.2.2.1 6 (by decide) (by decide) t ht, h.2.2.1 7 (by decide) (by decide) t ht⟩⟩
/-- the FINDING e would change anything -/
def wcE (I : Nat → Nat → Int) (pr szr lfr : Nat → Nat) (n : Nat) (e : E6) : Prop := wcB (I (pr e.1.toNat + 1)) (I (pr e.1.toNat + 2)) (I (pr e.1.toNat + 3)) (szr e.1.toNat) (lfr e.1.toNat) (tsOf I n) e.2.1 e.2.2.1 e.2.2.2.1 e.2.2.2.2.1 e.2.2.2.2.2
theorem CacheOK.wc {n nr : Nat} {I I' : Nat → Nat → Int} {L L' : Nat → Nat → Int64} {pr lfr : Nat → Nat} (h : CacheOK I L pr lfr n nr) (hw : WcI n I I' L L') (h143 : I' 143 = I 143) (h144 : I' 144 = I 144) (hl : L' 145 = L 145) (hp : ∀ k, k < nr → 192 ≤ pr k) : CacheOK I' L' pr lfr n nr := fun r hr e => by
  rw [h143] at e
  have := h r hr e
  unfold Found at this ⊢
  obtain ⟨t1, t2, t3⟩ := hw.found (lf := lfr r) (hp r hr)
  rw [h144, hl, t1, t2, t3]; exact this
theorem LkFr.wc {n : Nat} {I I' : Nat → Nat → Int} {L L' : Nat → Nat → Int64} (h : LkFr I I' L L') (hn : I 2 0 = (n : Int)) : WcI n I I' L L' := ⟨fun a ha => h.1 a (by omega) (by omega) (by omega) (by omega) (by omega), by rw [h.1 2 (by decide) (by decide) (by decide) (by decide) (by decide)]; exact hn, fun a a1 a2 t _ => by rw [h.1 a (by omega) (by omega) (by omega) (by omega) (by omega)], h.2⟩
theorem BwFr.wc {n : Nat} {I I' : Nat → Nat → Int} {L : Nat → Nat → Int64} (h : BwFr n I I') : WcI n I I' L L := ⟨fun a ha => h.1 a (by omega) (by omega) (by omega) (by omega) (by omega) (by omega) (by omega) (by omega), h.2.1, h.2.2, fun _ _ _ _ _ _ => rfl⟩
section S42
variable {S : tmS} {I : Nat → Nat → Int} {L : Nat → Nat → Int64}
abbrev WcPost (S : tmS) (I : Nat → Nat → Int) (L : Nat → Nat → Int64) (pr szr lfr : Nat → Nat) (n nr : Nat) (lim : Int) : Option tmV → tmH → Prop := fun q h' => ∃ I' L' u, q = some (tI u) ∧ h' = (S, I', L') ∧ WcI n I I' L L' ∧ CacheOK I' L' pr lfr n nr ∧ ((u = 1 ∧ ∃ e ∈ TDS I pr lfr n lim nr, wcE I pr szr lfr n e) ∨ (u = 0 ∧ ∀ e ∈ TDS I pr lfr n lim nr, ¬ wcE I pr szr lfr n e))
theorem TDS_up {I : Nat → Nat → Int} {pr lfr : Nat → Nat} {n : Nat} {lim : Int} {i nr : Nat} (h : i ≤ nr) {e : E6} (he : e ∈ TDS I pr lfr n lim i) : e ∈ TDS I pr lfr n lim nr := by
  simp only [TDS, List.mem_flatMap, List.mem_range] at he ⊢
  obtain ⟨a, b, c⟩ := he
  exact ⟨a, by omega, c⟩
set_option maxRecDepth 20000 in
set_option maxHeartbeats 2000000 in
theorem would_inner (hL : LX S) {n nr : Nat} {pr szr lfr : Nat → Nat} (ht : TInv I n) (hrk : RulesOK S I nr pr szr lfr) (hrr : RuleRs I nr pr szr lfr) (lim : Int) (hlim : 0 ≤ lim ∧ lim ≤ 9) (i : Nat) (hi : i < nr) :
    ∀ (m k : Nat) (I' : Nat → Nat → Int) (L' : Nat → Nat → Int64), k + m = (FNDS I (pr i) (lfr i) n).length → WcI n I I' L L' → CacheOK I' L' pr lfr n nr → I' 143 3 = (i : Int) → (∀ e ∈ TDS I pr lfr n lim i ++ ((ENT I pr lfr n i).take k).filter (notLate lim), ¬ wcE I pr szr lfr n e) →
    (∀ (I2 : Nat → Nat → Int) (L2 : Nat → Nat → Int64) (x : Option tmV), WcI n I I2 L L2 → CacheOK I2 L2 pr lfr n nr → (∀ e ∈ TDS I pr lfr n lim (i + 1), ¬ wcE I pr szr lfr n e) → tmW kX3_wouldChange 9 0 0 62 [some (tR 149), some (tI lim), some (tI i), some (tR 144), x] [] (S, I2, L2) (WcPost S I L pr szr lfr n nr lim)) →
    tmW kX3_wouldChange 9 0 0 25 [some (tR 149), some (tI lim), some (tI i), some (tR 144), some (tI k)] [] (S, I', L') (WcPost S I L pr szr lfr n nr lim) := by
  intro m
  have o149 := oX149 hL
  have r149_0 := rX149_0 hL
  have r149_1 := rX149_1 hL
  have r149_2 := rX149_2 hL
  have r149_3 := rX149_3 hL
  have r149_4 := rX149_4 hL
  have r149_5 := rX149_5 hL
  have r149_6 := rX149_6 hL
  have r149_7 := rX149_7 hL
  have o144 := oX144 hL
  have r144_0 := rX144_0 hL
  have o145 := oX145 hL
  have hf1 : LFin S 144 200 := ⟨o144, r144_0, o145⟩
  obtain ⟨hp, hw⟩ := hrk.2.2 i hi
  have hp192 : ∀ k, k < nr → 192 ≤ pr k := fun k hk => (hrk.2.2 k hk).2.1
  have hElen : (ENT I pr lfr n i).length = (FNDS I (pr i) (lfr i) n).length := by unfold ENT; rw [List.length_map]
  have hF200 := FNDS_len I (pr i) (lfr i) n
  have hnr6 := hrk.2.1
  induction m with
  | zero =>
    intro k I' L' hkm hwc hca h143 hno kk
    have hfd := hca i hi h143
    obtain ⟨s1, s2, s3⟩ := hwc.found (lf := lfr i) hw.1
    rw [Found, s1, s2, s3] at hfd
    have hcnt := hfd.1
    refine wa_iload dX3_wouldChange_25 rfl ?_
    refine wa_aload_n dX3_wouldChange_27 rfl ?_
    refine wt_getI dX3_wouldChange_28 FX3_58 (by assumption) ?_
    try try rw [hcnt]
    refine wa_icmp_ge 62 dX3_wouldChange_31 (by decide) (by exact ⟨by omega, by omega⟩) (by exact ⟨by omega, by omega⟩) (fun c_31 => ?_) (fun c_31 => ?_)
    · refine kk I' L' _ hwc hca ?_
      rw [List.take_of_length_le (by omega)] at hno
      rw [TDS_s]
      exact hno
    · omega
  | succ m ih =>
    intro k I' L' hkm hwc hca h143 hno kk
    have hfd := hca i hi h143
    obtain ⟨s1, s2, s3⟩ := hwc.found (lf := lfr i) hw.1
    rw [Found, s1, s2, s3] at hfd
    have hcnt := hfd.1
    obtain ⟨q, hq⟩ : ∃ q, (FNDS I (pr i) (lfr i) n)[k]? = some q := ⟨_, List.getElem?_eq_getElem (by omega)⟩
    obtain ⟨g1, g2, g3, g4, g5, g6⟩ := hfd.2.2 k q hq
    have hEk : (ENT I pr lfr n i)[k]? = some (entOf I (pr i) (lfr i) n i q) := by unfold ENT; rw [List.getElem?_map, hq]; rfl
    have htk : (ENT I pr lfr n i).take (k + 1) = (ENT I pr lfr n i).take k ++ [entOf I (pr i) (lfr i) n i q] := by
      rw [List.take_succ, hEk]; rfl
    have d0 : isDg (i : Int) := ⟨by omega, by omega⟩
    have hlate := c_isLate (I := I') (L := L') hf1 hcnt (by omega) k (by omega) lim ⟨by omega, by omega⟩ d0 g2 g3 g4 g5 g6 g1
    by_cases hl : lim < GnF I (pr i) (lfr i) n q
    · rw [if_pos hl] at hlate
      have hnl : notLate lim (entOf I (pr i) (lfr i) n i q) = false := by unfold notLate entOf; simpa using hl
      have nx := ih (k + 1) I' L' (by omega) hwc hca h143 (by
        rw [htk, List.filter_append]
        simp only [List.filter_cons, hnl, Bool.false_eq_true, if_false, List.filter_nil, List.append_nil]; exact hno) kk
      refine wa_iload dX3_wouldChange_25 rfl ?_
      refine wa_aload_n dX3_wouldChange_27 rfl ?_
      refine wt_getI dX3_wouldChange_28 FX3_58 (by assumption) ?_
      try try rw [hcnt]
      refine wa_icmp_ge 62 dX3_wouldChange_31 (by decide) (by exact ⟨by omega, by omega⟩) (by exact ⟨by omega, by omega⟩) (fun c_31 => ?_) (fun c_31 => ?_)
      · omega
      · refine wa_aload_n dX3_wouldChange_34 rfl ?_
        refine wa_iload dX3_wouldChange_35 rfl ?_
        refine wa_iload_n dX3_wouldChange_37 rfl ?_
        refine wa_callVf (ci := 1) dX3_wouldChange_38 KX1_isLate LX3_80 ⟨_, _, rfl, by decide⟩ o144 (hlate) (by decide) rfl rfl (Nat.le_of_ble_eq_true rfl) rfl rfl ?_
        refine wa_if_ne 56 dX3_wouldChange_41 (by decide) (by exact ⟨by omega, by omega⟩) (fun c_41 => ?_) (fun c_41 => ?_)
        · refine wa_iinc dX3_wouldChange_56 rfl (by decide) ?_
          refine wa_goto 25 dX3_wouldChange_59 (by decide) ?_
          exact nx
        · omega
    · rw [if_neg hl] at hlate
      have hl' : GnF I (pr i) (lfr i) n q ≤ lim := Int.not_lt.mp hl
      have hnl : notLate lim (entOf I (pr i) (lfr i) n i q) = true := by unfold notLate entOf; simp only [decide_eq_true_eq]; exact hl'
      obtain ⟨n1, n2, n3⟩ := FNDS_good ht hw (List.mem_of_getElem? hq)
      have hmem : entOf I (pr i) (lfr i) n i q ∈ TDS I pr lfr n lim (i + 1) := by
        rw [TDS_s]
        exact List.mem_append_right _ (List.mem_filter.mpr ⟨List.mem_of_getElem? hEk, hnl⟩)
      have hgood := TDS_good ht hrk hlim.2 (TDS_up (nr := nr) (by omega) hmem)
      have e1 : I' 1 = I 1 := hwc.1 1 (by omega)
      have e192 : ∀ a, 192 ≤ a → I' a = I a := fun a ha => hwc.1 a (by omega)
      have ht' := hwc.tinv ht
      have hw192 := hw.1
      have hel : ELet I (pr i) (lfr i) n q.1 q.2.1 q.2.2 := hgood.2
      have hro := RightOK.mk' hw (hrr i hi) hel (Nat.le_refl n) ht'.2.2.2.1 (e192 (pr i + 1) (by omega)) (e192 (pr i + 2) (by omega)) (e192 (pr i + 3) (by omega))
      have hby := c_wouldChangeBy (I := I') (L := L') hL hcnt hF200 (by omega : k < _) (x := q.1) (y := q.2.1) (z := q.2.2) (P := PlF I (pr i) (lfr i) q) (g := GnF I (pr i) (lfr i) n q) ⟨g1, d0, g2, g3, g4, g5, g6⟩ ht' ⟨Int.le_trans (by decide) n3, Int.le_trans hl' hlim.2⟩ (by rw [e1]; exact hrk.1) hnr6 hi hp (hw.fr e192) hro
      have hwe : wcB (I' (pr i + 1)) (I' (pr i + 2)) (I' (pr i + 3)) (szr i) (lfr i) (tsOf I' n) q.1 q.2.1 q.2.2 (PlF I (pr i) (lfr i) q) (GnF I (pr i) (lfr i) n q) ↔ wcE I pr szr lfr n (entOf I (pr i) (lfr i) n i q) := by
        rw [e192 (pr i + 1) (by omega), e192 (pr i + 2) (by omega), e192 (pr i + 3) (by omega)]
        obtain ⟨q1, q2, q3, q4, q5, q6, q7, q8, _⟩ := id hw
        exact wcB_cg q8 q7 q6 (hrr i hi).1 hwc.ts _ _ _ _ _
      refine wa_iload dX3_wouldChange_25 rfl ?_
      refine wa_aload_n dX3_wouldChange_27 rfl ?_
      refine wt_getI dX3_wouldChange_28 FX3_58 (by assumption) ?_
      try try rw [hcnt]
      refine wa_icmp_ge 62 dX3_wouldChange_31 (by decide) (by exact ⟨by omega, by omega⟩) (by exact ⟨by omega, by omega⟩) (fun c_31 => ?_) (fun c_31 => ?_)
      · omega
      · refine wa_aload_n dX3_wouldChange_34 rfl ?_
        refine wa_iload dX3_wouldChange_35 rfl ?_
        refine wa_iload_n dX3_wouldChange_37 rfl ?_
        refine wa_callVf (ci := 1) dX3_wouldChange_38 KX1_isLate LX3_80 ⟨_, _, rfl, by decide⟩ o144 (hlate) (by decide) rfl rfl (Nat.le_of_ble_eq_true rfl) rfl rfl ?_
        refine wa_if_ne 56 dX3_wouldChange_41 (by decide) (by exact ⟨by omega, by omega⟩) (fun c_41 => ?_) (fun c_41 => ?_)
        · omega
        · refine wa_aload_n dX3_wouldChange_44 rfl ?_
          refine wa_aload_n dX3_wouldChange_45 rfl ?_
          refine wa_iload dX3_wouldChange_46 rfl ?_
          refine wa_callV (ci := 3) dX3_wouldChange_48 KX3_wouldChangeBy LX3_149 ⟨_, _, rfl, by decide⟩ o149 (hby) (by decide) rfl (Nat.le_of_ble_eq_true rfl) rfl rfl (fun r h' hq => ?_)
          obtain ⟨I2, u, rfl, rfl, hbw, hu⟩ := hq
          rw [hwe] at hu
          have hw2 := hwc.trans (BwFr.wc (L := L') hbw)
          have hca2 := hca.wc (BwFr.wc (L := L') hbw) (hbw.1 143 (by decide) (by decide) (by decide) (by decide) (by decide) (by decide) (by decide) (by decide)) (hbw.1 144 (by decide) (by decide) (by decide) (by decide) (by decide) (by decide) (by decide) (by decide)) rfl hp192
          have h143' : I2 143 3 = (i : Int) := by rw [hbw.1 143 (by decide) (by decide) (by decide) (by decide) (by decide) (by decide) (by decide) (by decide)]; exact h143
          have hu01 : u = 0 ∨ u = 1 := by rcases hu with ⟨h, _⟩ | ⟨h, _⟩ <;> omega
          refine wa_if_eq 56 dX3_wouldChange_51 (by decide) (by exact ⟨by omega, by omega⟩) (fun c_51 => ?_) (fun c_51 => ?_)
          · refine wa_iinc dX3_wouldChange_56 rfl (by decide) ?_
            refine wa_goto 25 dX3_wouldChange_59 (by decide) ?_
            refine ih (k + 1) I2 L' (by omega) hw2 hca2 h143' ?_ kk
            rw [htk, List.filter_append, ← List.append_assoc]
            intro e he
            rcases List.mem_append.mp he with h | h
            · exact hno e h
            · simp only [List.filter_cons, hnl, if_true, List.filter_nil, List.mem_singleton] at h
              subst h
              rcases hu with ⟨h, _⟩ | ⟨_, h⟩
              · omega
              · exact h
          · refine wa_iconst dX3_wouldChange_54 ?_
            refine wa_zreturn dX3_wouldChange_55 rfl (by first | exact Or.inl rfl | exact Or.inr rfl) ?_
            refine ⟨I2, L', 1, rfl, rfl, hw2, hca2, Or.inl ⟨rfl, _, TDS_up (by omega) hmem, ?_⟩⟩
            rcases hu with ⟨_, h⟩ | ⟨h, _⟩
            · exact h
            · exact absurd h c_51
end S42
