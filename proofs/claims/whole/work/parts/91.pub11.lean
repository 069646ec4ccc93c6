/-! ===== 91: TriggerMatches: still; a ROUND changes something where a FINDING would (pure) ===== -/
/-- a FINDING would change anything -/
def wcX (rl : RuL) (e : E6) (X : TS) : Prop := match bW (ltOf X.1 X.2.2.2.2.2 e.2.1 e.2.2.1 e.2.2.2.1) e.2.2.2.2.2 (rlR rl e.1.toNat) [] X [] with
  | none => False
  | some q => X.1 < q.1.1 ∨ X.2.2.2.2.2 (lastI q.2) ≠ e.2.2.2.2.1
theorem tmCnt_mono {P Q : Nat → Prop} [DecidablePred P] [DecidablePred Q] : ∀ k t, (∀ y, t ≤ y → y < t + k → P y → Q y) → tmCnt P k t ≤ tmCnt Q k t := by
  intro k
  induction k with
  | zero => intro t _; exact Nat.le_refl _
  | succ k ih =>
    intro t h
    have := ih (t + 1) (fun y a b => h y (by omega) (by omega))
    simp only [tmCnt]
    by_cases c : P t
    · rw [if_pos c, if_pos (h t (by omega) (by omega) c)]; omega
    · rw [if_neg c]; omega
theorem nCls_mono {n : Nat} {h g : Nat → Int} (hh : HO n h) (hg : HO n g) (hl : HLe n h g) : nCls n g ≤ nCls n h := by
  refine tmCnt_mono n 0 (fun t _ ht e => ?_)
  have ht : t < n := by omega
  have a := hh t ht
  have a2 : (h t).toNat < n := by omega
  have := hl t (h t).toNat ht a2 a.2.2.symm
  have b := hg (h t).toNat a2
  omega
/-- a join that unites leaves fewer CLASSES, after the closure too -/
theorem cl_fewer {X : TS} (hX : XOK X) {t u : Nat} (ht : t < X.1) (hu : u < X.1) : (nCls X.1 (clX (jnX X t u)).2.2.2.2.2 < nCls X.1 X.2.2.2.2.2) ↔ X.2.2.2.2.2 t ≠ X.2.2.2.2.2 u := by
  have hj := jnX_ok hX.1 ht hu
  constructor
  · intro h e
    have : TsEq X (jnX X t u) := ⟨rfl, fun j hj => ⟨rfl, rfl, rfl, rfl, by show tmJn X.1 X.2.2.2.2.2 (X.2.2.2.2.2 t) (X.2.2.2.2.2 u) j = _; rw [e, tmJn_same]⟩⟩
    have e2 : TsEq X (clX (jnX X t u)) := (clX_self hX).trans (clX_cg this hj.2.2.1)
    have := nCls_congr (n := X.1) (h := X.2.2.2.2.2) (g := (clX (jnX X t u)).2.2.2.2.2) (fun k hk => ((e2.2 k hk).2.2.2.2).symm)
    omega
  · intro hne
    have h1 := nCls_join hX.1.2.2.1 ht hu hne
    have hcl := clH_ok hj.2.2.1
    have h2 : nCls X.1 (clX (jnX X t u)).2.2.2.2.2 ≤ nCls X.1 (jnX X t u).2.2.2.2.2 := nCls_mono hj.2.2.1 hcl.1.1 hcl.1.2.1
    have h1' : nCls X.1 X.2.2.2.2.2 = nCls X.1 (jnX X t u).2.2.2.2.2 + 1 := h1
    omega
/-- what a FINDING does, where it would change nothing -/
theorem doX_no {X : TS} {rl : RuL} {e : E6} {C : Nat → Int} (hX : XOK X) (hr : RlOK rl) (he : EG X.1 rl e) (hP : X.2.2.2.2.2 e.2.2.2.2.1.toNat = e.2.2.2.2.1) : (wcX rl e X → (doX rl e X C).2.2 = 1) ∧ (¬ wcX rl e X → (doX rl e X C).2.2 = 0 ∧ TsEq X (doX rl e X C).1) := by
  unfold wcX doX
  cases hb : bW (ltOf X.1 X.2.2.2.2.2 e.2.1 e.2.2.1 e.2.2.2.1) e.2.2.2.2.2 (rlR rl e.1.toNat) [] X [] with
  | none => exact ⟨fun h => absurd h id, fun _ => ⟨rfl, TsEq.refl X⟩⟩
  | some q =>
    obtain ⟨X1, ms⟩ := q
    obtain ⟨a, b, c, d, f⟩ := bR_ok hX.1 hr he hb
    simp only
    by_cases z : X.1 < X1.1
    · exact ⟨fun _ => by rw [if_pos (Or.inl z)], fun h => absurd (Or.inl z) h⟩
    · have en : X1.1 = X.1 := by have := b.1; omega
      have e1 : TsEq X X1 := ⟨en, b.2⟩
      have hPn : e.2.2.2.2.1.toNat < X.1 := by have := he.2.1; omega
      have hl : lastI ms < X.1 := by omega
      have hj := clX_cg (jnX_cg e1 hl hPn) (jnX_ok a d (by omega)).2.2.1
      have enc : nCls X.1 (clX (jnX X1 (lastI ms) e.2.2.2.2.1.toNat)).2.2.2.2.2 = nCls X.1 (clX (jnX X (lastI ms) e.2.2.2.2.1.toNat)).2.2.2.2.2 := nCls_congr (fun k hk => (hj.2 k hk).2.2.2.2)
      have hf := cl_fewer hX hl hPn
      rw [← enc, hP] at hf
      constructor
      · rintro (h | h)
        · omega
        · rw [if_pos (Or.inr (hf.mpr h))]
      · intro h
        have hno : ¬ (nCls X.1 (clX (jnX X1 (lastI ms) e.2.2.2.2.1.toNat)).2.2.2.2.2 < nCls X.1 X.2.2.2.2.2) := fun k => h (Or.inr (hf.mp k))
        refine ⟨by rw [if_neg (fun k => k.elim z hno)], ?_⟩
        have heq : X.2.2.2.2.2 (lastI ms) = X.2.2.2.2.2 e.2.2.2.2.1.toNat := by
          rw [hP]
          apply Classical.byContradiction
          intro k
          exact h (Or.inr k)
        have : TsEq X (jnX X (lastI ms) e.2.2.2.2.1.toNat) := ⟨rfl, fun j hj => ⟨rfl, rfl, rfl, rfl, by show tmJn X.1 X.2.2.2.2.2 (X.2.2.2.2.2 (lastI ms)) (X.2.2.2.2.2 e.2.2.2.2.1.toNat) j = _; rw [heq, tmJn_same]⟩⟩
        exact ((clX_self hX).trans (clX_cg this (jnX_ok hX.1 hl hPn).2.2.1)).trans hj
theorem wcX_cg {rl : RuL} {e : E6} {X Y : TS} (hX : TsOK X) (hr : RlOK rl) (he : EG X.1 rl e) (h : TsEq X Y) : wcX rl e Y ↔ wcX rl e X := by
  have hrr : e.1.toNat < rl.length := by have := he.1; omega
  have hru := hr.at hrr
  unfold wcX
  rcases bW_e5 (lt := ltOf X.1 X.2.2.2.2.2 e.2.1 e.2.2.1 e.2.2.2.1) (lt' := ltOf Y.1 Y.2.2.2.2.2 e.2.1 e.2.2.1 e.2.2.2.1) he.2.2.1 hX (hX.cg h) h hru.2.1 (fun s hs h7 => ⟨by rw [h.1, ltOf_cg (fun t ht => (h.2 t ht).2.2.2.2)], lt_ok hX.2.2.1 (he.2.2.2 s hs h7)⟩) with ⟨a, b⟩ | ⟨X1, Y1, ms, a, b, e5⟩
  · rw [a, b]
  · rw [a, b]
    obtain ⟨o1, o2, o3, o4, o5⟩ := bR_ok hX hr he a
    simp only
    rw [h.1, e5.1]
    by_cases z : X.1 < X1.1
    · exact ⟨fun _ => Or.inl z, fun _ => Or.inl z⟩
    · have : lastI ms < X.1 := by have := o2.1; omega
      rw [(h.2 _ this).2.2.2.2]
/-- a ROUND changes nothing just where no FINDING would -/
theorem run_still {rl : RuL} (hr : RlOK rl) : ∀ (es : List E6) (X Y : TS) (C : Nat → Int) (u : Int), XOK X → TsEq X Y → (∀ e ∈ es, EG X.1 rl e ∧ X.2.2.2.2.2 e.2.2.2.2.1.toNat = e.2.2.2.2.1) → ((runX rl es Y C u).2.2 = u ↔ ∀ e ∈ es, ¬ wcX rl e X) := by
  intro es
  induction es with
  | nil => intro X Y C u _ _ _; exact ⟨fun _ e he => (by cases he), fun _ => rfl⟩
  | cons e es ih =>
    intro X Y C u hX h he
    obtain ⟨g1, g2⟩ := he e List.mem_cons_self
    have hY := hX.cg h
    have gY : EG Y.1 rl e := by rw [h.1]; exact g1
    have pY : Y.2.2.2.2.2 e.2.2.2.2.1.toNat = e.2.2.2.2.1 := by rw [(h.2 _ (by have := g1.2.1; omega)).2.2.2.2]; exact g2
    obtain ⟨d1, d2⟩ := doX_no (C := C) hY hr gY pY
    have hw := wcX_cg hX.1 hr g1 h
    simp only [runX]
    by_cases z : wcX rl e X
    · have e1 := d1 (hw.mpr z)
      have hb := runX_b (rl := rl) es (doX rl e Y C).1 (doX rl e Y C).2.1 (u + (doX rl e Y C).2.2)
      constructor
      · intro k; omega
      · intro k; exact absurd z (k e List.mem_cons_self)
    · obtain ⟨e1, e2⟩ := d2 (fun k => z (hw.mp k))
      have hi := ih X (doX rl e Y C).1 (doX rl e Y C).2.1 (u + (doX rl e Y C).2.2) hX (h.trans e2) (fun x hx => he x (List.mem_cons_of_mem _ hx))
      rw [e1, Int.add_zero] at hi
      rw [e1, Int.add_zero, hi]
      constructor
      · intro k x hx
        rcases List.mem_cons.mp hx with q | q
        · rw [q]; exact z
        · exact k x q
      · intro k x hx; exact k x (List.mem_cons_of_mem _ hx)
theorem ORD_all {od : Int} {T : List E6} (h : ∀ e ∈ T, 0 ≤ kf od e ∧ kf od e ≤ 49) {e : E6} (he : e ∈ T) : e ∈ ORD od T := by
  obtain ⟨j, hj, rfl⟩ := List.getElem_of_mem he
  have hg : T[j]? = some T[j] := List.getElem?_eq_getElem hj
  have hk : kyOf od T j < 50 := by
    rw [kyOf_eq hg]
    have := h _ he
    omega
  unfold ORD
  refine List.mem_filterMap.mpr ⟨j, ?_, hg⟩
  exact List.mem_of_getElem? (SQK_rk _ _ j hj hk)
section S91
variable {S : tmS} {I : Nat → Nat → Int} {L : Nat → Nat → Int64}
/-- the place of a FINDING is a CLASS -/
theorem NowR.home {X : TS} {rl : RuL} (h : NowR S I L X rl) {lim : Int} {e : E6} (he : e ∈ tdsX X rl lim) : X.2.2.2.2.2 e.2.2.2.2.1.toNat = e.2.2.2.2.1 := by
  rw [← (h.tds lim).1] at he
  unfold TDS at he
  obtain ⟨r, hr, he⟩ := List.mem_flatMap.mp he
  have hr := List.mem_range.mp hr
  have he := (List.mem_filter.mp he).1
  unfold ENT at he
  obtain ⟨q, hq, rfl⟩ := List.mem_map.mp he
  obtain ⟨w, _, _⟩ := h.2.2.2.2.1.ws.1 r hr
  obtain ⟨h1, h2, h3, h4, h5, h6⟩ := h.tinv
  obtain ⟨q1, q2, q3, q4, q5, q6, q7, q8, q9, q10, q11⟩ := w
  obtain ⟨ch, a, b, rfl, _⟩ := EN_val 3 _ _ (Nat.le_refl _) (List.mem_of_mem_take hq)
  have hf := fPl_eq (pl := I 134) q8 q9 q5 (by omega : lfS S I r ≤ szS S I r) ch
  have hne := (SA_iff.mp b) (lfS S I r - 1) (by omega)
  obtain ⟨t, t1, t2, _⟩ := tv_term q8 h5 h3 h4 h2 (by omega : lfS S I r - 1 < szS S I r) q10 hne
  have hh := h4 t t1
  have e0 : (entOf I (prS S r) (lfS S I r) X.1 (r : Int) (ch 0, ch 1, ch 2)).2.2.2.2.1 = I 7 t := by
    show fPl _ _ _ _ _ _ = _
    rw [hf, t2]
  rw [e0]
  have e1 := (h.1.2 (I 7 t).toNat (by omega)).2.2.2.2
  have e1 : I 7 (I 7 t).toNat = X.2.2.2.2.2 (I 7 t).toNat := e1
  rw [← e1]
  exact hh.2.2
theorem wc_link {X : TS} {rl : RuL} (h : NowR S I L X rl) {lim : Int} (hl : lim ≤ 9) {e : E6} (he : e ∈ tdsX X rl lim) : wcE I (prS S) (szS S I) (lfS S I) X.1 e ↔ wcX rl e X := by
  have g := h.eg hl he
  obtain ⟨w1, w2, w3, w4⟩ := h.2.2.2.2.1.ws
  have hrr : e.1.toNat < rl.length := by have := g.1; omega
  obtain ⟨v1, v2, v3⟩ := w1 _ hrr
  have hts := h.1.ts
  have hok := h.2.1.1
  have hY := hok.cg hts
  rw [← wcX_cg hok w4 g hts]
  have gY : EG (tsOf I X.1).1 rl e := g
  have hsz := v1.2.2.2.2.2.1
  have hm120 := v1.2.2.2.2.2.2.1
  have hbd := rep_bd v3 hm120 (lt := ltOf X.1 (I 7) e.2.1 e.2.2.1 e.2.2.2.1) (g := e.2.2.2.2.2) (fun j j1 j2 j7 => by
    have hm : I (prS S e.1.toNat + 1) j ∈ rlR rl e.1.toNat := by
      have a7 := v3.2.2.2.2.2.2.1
      have a8 := v3.2.2.2.2.2.2.2.1
      rw [← a7]
      exact (pf_mem v3.2.2.1 v3.2.2.2.1 (i := szS S I e.1.toNat - 1) (by omega) (by omega) _).mpr ⟨j, by rw [a7]; omega, by omega, rfl⟩
    exact (lt_ok hY.2.2.1 (g.2.2.2 _ hm j7)).1) (tsOf I X.1) (fun _ => 0)
  unfold wcE wcB wcX
  cases z : bdF (I (prS S e.1.toNat + 1)) (I (prS S e.1.toNat + 2)) (I (prS S e.1.toNat + 3)) (ltOf (tsOf I X.1).1 (tsOf I X.1).2.2.2.2.2 e.2.1 e.2.2.1 e.2.2.2.1) e.2.2.2.2.2 (szS S I e.1.toNat - lfS S I e.1.toNat) (lfS S I e.1.toNat) (tsOf I X.1) (fun _ => 0) with
  | none =>
    have z' : bdF (I (prS S e.1.toNat + 1)) (I (prS S e.1.toNat + 2)) (I (prS S e.1.toNat + 3)) (ltOf X.1 (I 7) e.2.1 e.2.2.1 e.2.2.2.1) e.2.2.2.2.2 (szS S I e.1.toNat - lfS S I e.1.toNat) (lfS S I e.1.toNat) (tsOf I X.1) (fun _ => 0) = none := z
    rw [z'] at hbd
    have hbd' : bW (ltOf (tsOf I X.1).1 (tsOf I X.1).2.2.2.2.2 e.2.1 e.2.2.1 e.2.2.2.1) e.2.2.2.2.2 (rlR rl e.1.toNat) [] (tsOf I X.1) [] = none := hbd
    rw [hbd']
  | some q =>
    obtain ⟨X1, md⟩ := q
    have z' : bdF (I (prS S e.1.toNat + 1)) (I (prS S e.1.toNat + 2)) (I (prS S e.1.toNat + 3)) (ltOf X.1 (I 7) e.2.1 e.2.2.1 e.2.2.2.1) e.2.2.2.2.2 (szS S I e.1.toNat - lfS S I e.1.toNat) (lfS S I e.1.toNat) (tsOf I X.1) (fun _ => 0) = some (X1, md) := z
    rw [z'] at hbd
    have hbd' : bW (ltOf (tsOf I X.1).1 (tsOf I X.1).2.2.2.2.2 e.2.1 e.2.2.1 e.2.2.2.1) e.2.2.2.2.2 (rlR rl e.1.toNat) [] (tsOf I X.1) [] = some (X1, mdL md (szS S I e.1.toNat - lfS S I e.1.toNat) (lfS S I e.1.toNat)) := hbd
    rw [hbd']
    obtain ⟨o1, o2, o3, o4, o5⟩ := bR_ok hY w4 gY hbd'
    have elast : lastI (mdL md (szS S I e.1.toNat - lfS S I e.1.toNat) (lfS S I e.1.toNat)) = (md (szS S I e.1.toNat - 1)).toNat := by
      have := mdL_last md (szS S I e.1.toNat - lfS S I e.1.toNat - 1) (lfS S I e.1.toNat)
      rw [show szS S I e.1.toNat - lfS S I e.1.toNat - 1 + 1 = szS S I e.1.toNat - lfS S I e.1.toNat by omega, show lfS S I e.1.toNat + (szS S I e.1.toNat - lfS S I e.1.toNat - 1) = szS S I e.1.toNat - 1 by omega] at this
      exact this
    have hmem : md (szS S I e.1.toNat - 1) ∈ mdL md (szS S I e.1.toNat - lfS S I e.1.toNat) (lfS S I e.1.toNat) := by
      have := mdL_app md (szS S I e.1.toNat - lfS S I e.1.toNat - 1) 1 (lfS S I e.1.toNat)
      rw [show szS S I e.1.toNat - lfS S I e.1.toNat - 1 + 1 = szS S I e.1.toNat - lfS S I e.1.toNat by omega] at this
      rw [this]
      refine List.mem_append_right _ ?_
      simp only [mdL]
      rw [show lfS S I e.1.toNat + (szS S I e.1.toNat - lfS S I e.1.toNat - 1) = szS S I e.1.toNat - 1 by omega]
      exact List.mem_singleton.mpr rfl
    have hm := o5 _ hmem
    simp only
    rw [elast]
    by_cases c : X.1 < X1.1
    · exact ⟨fun _ => Or.inl c, fun _ => Or.inl c⟩
    · have hle : X.1 ≤ X1.1 := o2.1
      rw [tmHome_in ⟨hm.1, by show _ < (X.1 : Int); omega⟩]
/-- the class's wouldChange leaves the class as it was -/
theorem CR.wc {I' : Nat → Nat → Int} {L' : Nat → Nat → Int64} {m m' : Nat} {A : AS} (h : CR S I L m A) (hm : m ≤ m') (f : WcI A.1.1.1 I I' L L') (hc : CacheOK I' L' (prS S) (lfS S I) A.1.1.1 A.1.2.length) : CR S I' L' m' A ∧ MFr S I S I' := by
  obtain ⟨c1, c2, c3, c4, c5⟩ := h
  have e := f.1
  have pf : PatFr S I S I' := ⟨Nat.le_refl _, fun a a1 _ => ⟨rfl, rfl, rfl, e a (by omega)⟩⟩
  have ht := f.tinv c2.tinv
  obtain ⟨n1, n2, n3, ⟨us, n4⟩, n5, n6⟩ := c2
  refine ⟨⟨c1, ⟨⟨f.2.1, fun t ht => ?_⟩, n2, ht.2.2.2.2.1, ⟨us, ?_⟩, n5.pf pf (by rw [e 1 (by omega)]) (fun _ _ => rfl), fun x hx hx3 => ?_⟩, c3.fr pf (fun a a1 a2 => e a (by omega)) (fun _ _ _ => rfl), c4, c5.fr hm (fun a ha => e a (by omega)) (by rw [e 155 (by omega)]) (by rw [e 155 (by omega)]; exact c5.2.2.2.2.2)⟩, fun a a1 a2 => e a (by omega)⟩
  · have := n1.2 t ht
    rw [f.2.2.1 3 (by decide) (by decide) t ht, f.2.2.1 4 (by decide) (by decide) t ht, f.2.2.1 5 (by decide) (by decide) t ht, f.2.2.1 6 (by decide) (by decide) t ht, f.2.2.1 7 (by decide) (by decide) t ht]
    exact this
  · unfold PlOK at n4 ⊢
    rw [e 133 (by omega), e 134 (by omega), e 135 (by omega)]; exact n4
  · have e1 : lfS S I' x = lfS S I x := by
      unfold lfS
      have := prS_ge n5 hx
      rw [e _ (by omega)]
    rw [e1]; exact hc x hx hx3
noncomputable def spStill (A : AS) : Int := if (rndX A).2.2 = 0 then 1 else 0
theorem CR.rl {m : Nat} {A : AS} (h : CR S I L m A) : RlOK A.1.2 := h.2.1.2.2.2.2.1.ws.2.2.2
theorem CR.still {m : Nat} {A : AS} (h : CR S I L m A) : (rndX A).2.2 = 0 ↔ ∀ e ∈ tdsX A.1.1 A.1.2 A.2.2.1.2, ¬ wcX A.1.2 e A.1.1 := by
  have hl := h.2.2.2.2.2.1.2.2
  have hs := run_still h.rl (ORD A.2.2.1.1 (tdsX A.1.1 A.1.2 A.2.2.1.2)) A.1.1 A.1.1 (fun j => if j = 1 then (lateX A.1.1 A.1.2 A.2.2.1.2 A.1.2.length : Int) else 0) 0 h.2.1.2.1 (TsEq.refl _) (fun e he => ⟨h.2.1.eg hl (ORD_mem he), h.2.1.home (ORD_mem he)⟩)
  have hs : (rndX A).2.2 = 0 ↔ _ := hs
  rw [hs]
  constructor
  · intro k e he
    exact k e (ORD_all (fun x hx => by
      obtain ⟨g1, g2, g3, _⟩ := h.2.1.eg hl hx
      have h6 := h.2.1.2.2.2.2.1.2.1
      have h50 := h.2.1.2.1.1.1
      unfold kf
      have hod := h.2.2.2.2.1
      split
      · omega
      · split
        · omega
        · split <;> omega) he)
  · intro k e he
    exact k e (ORD_mem he)
set_option maxRecDepth 20000 in
theorem c_still {m : Nat} {A : AS} (h : CR S I L m A) : tmC yX11_still kX11_still 10 0 0 [tR 0] (S, I, L) (CPost S I (m + 1) (tI (spStill A)) A) := by
  refine tmC.mk (lv := [some (tR 0)]) 0 ⟨rfl, by decide +kernel, by decide⟩ rfl rfl ?_
  have hL := h.1
  have o0 := oX0 hL
  have r0_0 := rX0_0 hL
  have r0_1 := rX0_1 hL
  have r0_2 := rX0_2 hL
  have r0_3 := rX0_3 hL
  have r0_4 := rX0_4 hL
  have r0_5 := rX0_5 hL
  have r0_6 := rX0_6 hL
  have r0_7 := rX0_7 hL
  have r0_8 := rX0_8 hL
  have o149 := oX149 hL
  have r149_0 := rX149_0 hL
  have r149_1 := rX149_1 hL
  have r149_2 := rX149_2 hL
  have r149_3 := rX149_3 hL
  have r149_4 := rX149_4 hL
  have r149_5 := rX149_5 hL
  have r149_6 := rX149_6 hL
  have r149_7 := rX149_7 hL
  have hn := h.2.1
  obtain ⟨w1, w2, w3, w4⟩ := hn.2.2.2.2.1.ws
  have m2 := h.2.2.2.2.2.1
  have hw := c_wouldChange (L := L) hL hn.tinv w2 w3 A.2.2.1.2 m2.2 hn.2.2.2.2.2
  have hs := h.still
  have rest : ∀ (I' : Nat → Nat → Int) (L' : Nat → Nat → Int64) (u : Int), CR S I' L' (m + 1) A → MFr S I S I' → (u = 0 ∧ spStill A = 1 ∨ u = 1 ∧ spStill A = 0) → tmW kX11_still 10 0 0 11 [some (tR 0)] [tI u] (S, I', L') (CPost S I (m + 1) (tI (spStill A)) A) := by
    intro I' L' u s1 s2 hu
    rcases hu with ⟨rfl, e⟩ | ⟨rfl, e⟩
    · rw [e]
      refine wa_if_eq 18 dX11_still_11 (by decide) (by exact ⟨by omega, by omega⟩) (fun c_11 => ?_) (fun c_11 => ?_)
      · refine wa_iconst dX11_still_18 ?_
        refine wa_ireturn dX11_still_19 rfl ?_
        exact ⟨rfl, S, I', L', rfl, s1, s2⟩
      · omega
    · rw [e]
      refine wa_if_eq 18 dX11_still_11 (by decide) (by exact ⟨by omega, by omega⟩) (fun c_11 => ?_) (fun c_11 => ?_)
      · omega
      · refine wa_iconst dX11_still_14 ?_
        refine wa_goto 19 dX11_still_15 (by decide) ?_
        refine wa_ireturn dX11_still_19 rfl ?_
        exact ⟨rfl, S, I', L', rfl, s1, s2⟩
  refine wa_aload_n dX11_still_0 rfl ?_
  refine wt_getR dX11_still_1 FX11_57 (by assumption) (by assumption) ?_
  refine wa_aload_n dX11_still_4 rfl ?_
  refine wt_getI dX11_still_5 FX11_85 (by assumption) ?_
  try rw [m2.1]
  refine wa_callV (ci := 3) dX11_still_8 KX3_wouldChange LX11_212 ⟨_, _, rfl, by decide⟩ o149 (hw) (by decide) rfl (Nat.le_of_ble_eq_true rfl) rfl rfl (fun r h' hq => ?_)
  obtain ⟨I', L', u, rfl, rfl, f, hc, hu⟩ := hq
  obtain ⟨s1, s2⟩ := h.wc (m' := m + 1) (by omega) f hc
  refine rest I' L' u s1 s2 ?_
  rw [(hn.tds A.2.2.1.2).1] at hu
  rcases hu with ⟨rfl, e, he, hwc⟩ | ⟨rfl, hno⟩
  · right
    refine ⟨rfl, ?_⟩
    unfold spStill
    rw [if_neg (fun z => hs.mp z e he ((wc_link hn m2.2.2 he).mp hwc))]
  · left
    refine ⟨rfl, ?_⟩
    unfold spStill
    rw [if_pos (hs.mpr (fun e he k => hno e he ((wc_link hn m2.2.2 he).mpr k)))]
end S91
