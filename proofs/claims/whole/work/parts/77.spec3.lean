/-! ===== 77: the class's ROUNDS are those of the pure state (no machine) ===== -/
/-- what a RULE's words are like -/
def RuOK (w : List Int × List Int) : Prop := (∀ s ∈ w.1, 0 ≤ s ∧ s ≤ 9) ∧ (∀ s ∈ w.2, 0 ≤ s ∧ s ≤ 9) ∧ (∀ s ∈ w.2, 7 ≤ s → s ∈ w.1) ∧ (∃ s ∈ w.2, s < 4 ∨ 7 ≤ s) ∧ w.1.length + w.2.length ≤ 120 ∧ 1 ≤ w.1.length ∧ 1 ≤ w.2.length
def RWs (S : tmS) (I : Nat → Nat → Int) (rl : RuL) (pr szr lfr : Nat → Nat) : Prop := ∀ r, r < rl.length → RuleW S I (pr r) (szr r) (lfr r) ∧ RuleR I (pr r) (szr r) (lfr r) ∧ RepP I (pr r) (szr r) (lfr r) (rlL rl r) (rlR rl r)
theorem rep_RuOK {S : tmS} {I : Nat → Nat → Int} {p sz lf : Nat} {wl wr : List Int} (hw : RuleW S I p sz lf) (hr : RuleR I p sz lf) (h : RepP I p sz lf wl wr) : RuOK (wl, wr) := by
  have h9 := h.w9
  obtain ⟨q1, q2, q3, q4, q5, q6, q7, q8, q9, q10, q11⟩ := hw
  obtain ⟨a1, a2, a3, a4, a5, a6, a7, a8, a9, a10⟩ := h
  refine ⟨h9.1, h9.2, fun s hs h7 => ?_, ?_, by simp only; omega, by simp only; omega, by simp only; omega⟩
  · have hs : s ∈ wr := hs
    rw [← a7] at hs
    obtain ⟨j, j1, j2, j3⟩ := (pf_mem a3 a4 (i := sz - 1) (by omega) (by omega) s).mp hs
    rw [a7] at j1
    obtain ⟨i, i1, i2⟩ := hr.2 j (by omega) (by omega) (by omega)
    show s ∈ wl
    rw [← a5]
    exact (pf_mem a1 a2 (i := lf - 1) (by omega) (by omega) s).mpr ⟨i, by rw [a5]; omega, by omega, by omega⟩
  · have pp := a4 lf (by omega) (by omega)
    have w := a3 lf (by omega) (by omega)
    refine ⟨I (p + 1) lf, ?_, ?_⟩
    · show _ ∈ wr
      rw [← a7]
      exact (pf_mem a3 a4 (i := sz - 1) (by omega) (by omega) _).mpr ⟨lf, by rw [a7]; omega, by omega, rfl⟩
    · by_cases c : I (p + 1) lf < 4 ∨ 7 ≤ I (p + 1) lf
      · exact c
      · exfalso
        by_cases c6 : I (p + 1) lf = 6
        · have := pp.2.2.1 c6; have := w.2.2.1; omega
        · have := pp.2.1 (by omega) (by omega); have := w.2.2.1; omega
/-- what a FINDING to be done is like -/
def EG (n : Nat) (rl : RuL) (e : E6) : Prop := (0 ≤ e.1 ∧ e.1 < rl.length) ∧ (0 ≤ e.2.2.2.2.1 ∧ e.2.2.2.2.1 < n) ∧ (0 ≤ e.2.2.2.2.2 ∧ e.2.2.2.2.2 ≤ 9) ∧ ∀ s ∈ rlR rl e.1.toNat, 7 ≤ s → 0 ≤ tmPart 0 e.2.1 e.2.2.1 e.2.2.2.1 0 0 (s - 7).toNat ∧ tmPart 0 e.2.1 e.2.2.1 e.2.2.2.1 0 0 (s - 7).toNat < n
theorem EG.mono {n n' : Nat} {rl : RuL} {e : E6} (h : EG n rl e) (hn : n ≤ n') : EG n' rl e := ⟨h.1, by have := h.2.1; omega, h.2.2.1, fun s hs h7 => by have := h.2.2.2 s hs h7; omega⟩
def RlOK (rl : RuL) : Prop := ∀ w ∈ rl, RuOK w
theorem RlOK.at {rl : RuL} (h : RlOK rl) {r : Nat} (hr : r < rl.length) : RuOK (rl.getD r ([], [])) := by
  rw [List.getD_eq_getElem?_getD, List.getElem?_eq_getElem hr]
  exact h _ (List.getElem_mem hr)
theorem lt_ok {X : TS} (h : HO X.1 X.2.2.2.2.2) {x y z : Int} {l : Nat} (hl : 0 ≤ tmPart 0 x y z 0 0 l ∧ tmPart 0 x y z 0 0 l < X.1) : 0 ≤ ltOf X.1 X.2.2.2.2.2 x y z l ∧ ltOf X.1 X.2.2.2.2.2 x y z l < X.1 := by
  unfold ltOf
  rw [tmHome_in hl]
  have := h (tmPart 0 x y z 0 0 l).toNat (by omega)
  omega
/-- what building RIGHT leaves -/
theorem bR_ok {X X1 : TS} {rl : RuL} {e : E6} {ms : List Int} (hX : TsOK X) (hr : RlOK rl) (he : EG X.1 rl e) (hb : bW (ltOf X.1 X.2.2.2.2.2 e.2.1 e.2.2.1 e.2.2.2.1) e.2.2.2.2.2 (rlR rl e.1.toNat) [] X [] = some (X1, ms)) : TsOK X1 ∧ TsExt X X1 ∧ TsNew X X1 ∧ lastI ms < X1.1 ∧ MsOK X1.1 ms := by
  have hw := hr.at (r := e.1.toNat) (by have := he.1; omega)
  obtain ⟨a, b, c, d, _⟩ := bW_ok he.2.2.1 _ _ _ _ _ _ hb hw.2.1 (fun s hs h7 => lt_ok hX.2.2.1 (he.2.2.2 s hs h7)) hX (fun q hq => by cases hq) (fun q hq => by cases hq)
  exact ⟨a, b, c, (lastI_in d (bW_ne _ _ _ _ _ _ hb (Or.inr hw.2.2.2.1))).1, d⟩
theorem doX_ok {X : TS} {rl : RuL} {e : E6} {C : Nat → Int} (hX : XOK X) (hr : RlOK rl) (he : EG X.1 rl e) : XOK (doX rl e X C).1 ∧ X.1 ≤ (doX rl e X C).1.1 := by
  unfold doX
  cases hb : bW (ltOf X.1 X.2.2.2.2.2 e.2.1 e.2.2.1 e.2.2.2.1) e.2.2.2.2.2 (rlR rl e.1.toNat) [] X [] with
  | none => exact ⟨hX, Nat.le_refl _⟩
  | some q =>
    obtain ⟨X1, ms⟩ := q
    obtain ⟨a, b, c, d, _⟩ := bR_ok hX.1 hr he hb
    exact ⟨clX_ok (jnX_ok a d (by have := he.2.1; have := b.1; omega)), b.1⟩
/-- one FINDING, class and pure state -/
theorem do_link {S : tmS} {I : Nat → Nat → Int} {pr szr lfr : Nat → Nat} {rl : RuL} (hrw : RWs S I rl pr szr lfr) (hr : RlOK rl) {X Y Y' : TS} {C D D' : Nat → Int} {u : Int} {e : E6} (hX : XOK X) (hY : TsOK Y) (h : TsEq X Y) (he : EG X.1 rl e) (hC : ∀ j, j < 5 → D j = C j) (hd : DoS I pr szr lfr e Y D Y' D' u) : TsEq (doX rl e X C).1 Y' ∧ (∀ j, j < 5 → D' j = (doX rl e X C).2.1 j) ∧ u = (doX rl e X C).2.2 ∧ TsOK Y' := by
  obtain ⟨md, hd⟩ := hd
  have hrr : e.1.toNat < rl.length := by have := he.1; omega
  obtain ⟨w1, w2, w3⟩ := hrw e.1.toNat hrr
  have hru := hr.at hrr
  have hlt : ∀ s ∈ rlR rl e.1.toNat, 7 ≤ s → ltOf Y.1 Y.2.2.2.2.2 e.2.1 e.2.2.1 e.2.2.2.1 (s - 7).toNat = ltOf X.1 X.2.2.2.2.2 e.2.1 e.2.2.1 e.2.2.2.1 (s - 7).toNat ∧ 0 ≤ ltOf X.1 X.2.2.2.2.2 e.2.1 e.2.2.1 e.2.2.2.1 (s - 7).toNat ∧ ltOf X.1 X.2.2.2.2.2 e.2.1 e.2.2.1 e.2.2.2.1 (s - 7).toNat < X.1 := fun s hs h7 => by
    refine ⟨by rw [h.1, ltOf_cg (fun t ht => (h.2 t ht).2.2.2.2)], lt_ok hX.1.2.2.1 (he.2.2.2 s hs h7)⟩
  have hbd := rep_bd w3 w1.2.2.2.2.2.2.1 (lt := ltOf Y.1 Y.2.2.2.2.2 e.2.1 e.2.2.1 e.2.2.2.1) (g := e.2.2.2.2.2) (fun j j1 j2 j7 => by
    have hm : I (pr e.1.toNat + 1) j ∈ rlR rl e.1.toNat := by
      have a7 := w3.2.2.2.2.2.2.1
      have a8 := w3.2.2.2.2.2.2.2.1
      have hw := w1.2.2.2.2.2.1
      rw [← a7]
      exact (pf_mem w3.2.2.1 w3.2.2.2.1 (i := szr e.1.toNat - 1) (by omega) (by omega) _).mpr ⟨j, by rw [a7]; omega, by omega, rfl⟩
    have := hlt _ hm j7
    rw [this.1]; exact this.2.1) Y md
  rcases bW_e5 he.2.2.1 hX.1 hY h hru.2.1 hlt with ⟨a, b⟩ | ⟨X1, Y1, ms, a, b, e5⟩
  · have hbn : bdF (I (pr e.1.toNat + 1)) (I (pr e.1.toNat + 2)) (I (pr e.1.toNat + 3)) (ltOf Y.1 Y.2.2.2.2.2 e.2.1 e.2.2.1 e.2.2.2.1) e.2.2.2.2.2 (szr e.1.toNat - lfr e.1.toNat) (lfr e.1.toNat) Y md = none := by
      rw [b] at hbd
      cases z : bdF (I (pr e.1.toNat + 1)) (I (pr e.1.toNat + 2)) (I (pr e.1.toNat + 3)) (ltOf Y.1 Y.2.2.2.2.2 e.2.1 e.2.2.1 e.2.2.2.1) e.2.2.2.2.2 (szr e.1.toNat - lfr e.1.toNat) (lfr e.1.toNat) Y md with
      | none => rfl
      | some q => rw [z] at hbd; cases hbd
    rw [hbn] at hd
    obtain ⟨d1, d2, d3, d4, d5, d6, d7, d8⟩ := hd
    unfold doX
    rw [a]
    have hts : TsEq Y Y' := ⟨d2, d3⟩
    refine ⟨h.trans hts, fun j hj => ?_, d1, ?_⟩
    · show D' j = va_up C 2 (C 2 + 1) j
      have : j = 0 ∨ j = 1 ∨ j = 2 ∨ j = 3 ∨ j = 4 := by omega
      rcases this with rfl | rfl | rfl | rfl | rfl
      · rw [vup_n (by decide), d4]; exact hC 0 (by decide)
      · rw [vup_n (by decide), d5]; exact hC 1 (by decide)
      · rw [vup_s, d6, hC 2 (by decide)]
      · rw [vup_n (by decide), d7]; exact hC 3 (by decide)
      · rw [vup_n (by decide), d8]; exact hC 4 (by decide)
    · obtain ⟨y1, y2, y3, y4⟩ := hY
      refine ⟨by rw [d2]; exact y1, ?_, by rw [d2]; exact HO_cg (fun t ht => (d3 t ht).2.2.2.2) y3, fun t ht => by rw [d2] at ht; rw [(d3 t ht).2.2.2.1]; exact y4 t ht⟩
      rw [d2]
      intro t ht
      obtain ⟨k1, k2, k3, _⟩ := d3 t ht
      rw [k1, k2, k3]
      exact y2 t ht
  · rw [b] at hbd
    cases z : bdF (I (pr e.1.toNat + 1)) (I (pr e.1.toNat + 2)) (I (pr e.1.toNat + 3)) (ltOf Y.1 Y.2.2.2.2.2 e.2.1 e.2.2.1 e.2.2.2.1) e.2.2.2.2.2 (szr e.1.toNat - lfr e.1.toNat) (lfr e.1.toNat) Y md with
    | none => rw [z] at hbd; cases hbd
    | some q =>
      obtain ⟨Y2, md2⟩ := q
      rw [z] at hbd hd
      simp only [Option.map_some, Option.some.injEq, Prod.mk.injEq] at hbd
      obtain ⟨rfl, hms⟩ := hbd
      simp only at hd
      obtain ⟨d1, d2, d3, d4, d5, d6, d7, d8, d9, d10, d11, d12⟩ := hd
      obtain ⟨o1, o2, o3, o4, o5⟩ := bR_ok hX.1 hr he a
      have hsz := w1.2.2.2.2.2.1
      have elast : lastI ms = (md2 (szr e.1.toNat - 1)).toNat := by
        rw [hms]
        have := mdL_last md2 (szr e.1.toNat - lfr e.1.toNat - 1) (lfr e.1.toNat)
        rw [show szr e.1.toNat - lfr e.1.toNat - 1 + 1 = szr e.1.toNat - lfr e.1.toNat by omega, show lfr e.1.toNat + (szr e.1.toNat - lfr e.1.toNat - 1) = szr e.1.toNat - 1 by omega] at this
        exact this
      have hPn : e.2.2.2.2.1.toNat < X1.1 := by have := he.2.1; have := o2.1; omega
      have hj := jnX_cg e5 o4 hPn
      rw [← elast] at d1
      have hcl := (clX_eq hj (g := Y'.2.2.2.2.2) d1).1
      have hYY : TsEq (clX (jnX X1 (lastI ms) e.2.2.2.2.1.toNat)) Y' := by
        refine hcl.trans ⟨d2, fun t ht => ?_⟩
        rw [d3, d4, d5, d6]
        exact ⟨rfl, rfl, rfl, rfl, rfl⟩
      have hn1 : X1.1 = Y1.1 := e5.1.symm
      have enc : nCls Y.1 Y'.2.2.2.2.2 = nCls X.1 (clX (jnX X1 (lastI ms) e.2.2.2.2.1.toNat)).2.2.2.2.2 := by
        rw [h.1]
        exact nCls_congr (fun t ht => (hYY.2 t (by show t < X1.1; have := o2.1; omega)).2.2.2.2)
      have enc2 : nCls Y.1 Y.2.2.2.2.2 = nCls X.1 X.2.2.2.2.2 := by
        rw [h.1]
        exact nCls_congr (fun t ht => (h.2 t ht).2.2.2.2)
      unfold doX
      rw [a]
      refine ⟨hYY, fun j hj => ?_, ?_, ?_⟩
      · have : j = 0 ∨ j = 1 ∨ j = 2 ∨ j = 3 ∨ j = 4 := by omega
        rcases this with rfl | rfl | rfl | rfl | rfl
        · show D' 0 = C 0 + 1; rw [d8, hC 0 (by decide)]
        · show D' 1 = C 1; rw [d9, hC 1 (by decide)]
        · show D' 2 = C 2; rw [d10, hC 2 (by decide)]
        · show D' 3 = C 3 + ((X1.1 : Int) - X.1); rw [d11, hC 3 (by decide), hn1, h.1]
        · show D' 4 = C 4 + _; rw [d12, hC 4 (by decide), enc, enc2]
      · rw [d7, enc, enc2, h.1, ← hn1]
      · have hok := (clX_ok (jnX_ok o1 o4 hPn)).1
        obtain ⟨y1, y2, y3, y4⟩ := hok
        have hYn := hYY.1
        refine ⟨by rw [hYn]; exact y1, ?_, by rw [hYn]; exact HO_cg (fun t ht => (hYY.2 t ht).2.2.2.2) y3, fun t ht => by rw [hYn] at ht; rw [(hYY.2 t ht).2.2.2.1]; exact y4 t ht⟩
        rw [hYn]
        intro t ht
        obtain ⟨k1, k2, k3, _⟩ := hYY.2 t ht
        rw [k1, k2, k3]
        exact y2 t ht
theorem run_link {S : tmS} {I : Nat → Nat → Int} {pr szr lfr : Nat → Nat} {rl : RuL} (hrw : RWs S I rl pr szr lfr) (hr : RlOK rl) : ∀ (es : List E6) (X Y Y' : TS) (C D D' : Nat → Int) (u u' : Int), XOK X → TsOK Y → TsEq X Y → (∀ e ∈ es, EG X.1 rl e) → (∀ j, j < 5 → D j = C j) → RunS I pr szr lfr es Y D u Y' D' u' → TsEq (runX rl es X C u).1 Y' ∧ (∀ j, j < 5 → D' j = (runX rl es X C u).2.1 j) ∧ u' = (runX rl es X C u).2.2 ∧ XOK (runX rl es X C u).1 ∧ X.1 ≤ (runX rl es X C u).1.1 := by
  intro es
  induction es with
  | nil =>
    intro X Y Y' C D D' u u' hX hY h he hC hq
    obtain ⟨rfl, rfl, rfl⟩ := hq
    exact ⟨h, hC, rfl, hX, Nat.le_refl _⟩
  | cons e es ih =>
    intro X Y Y' C D D' u u' hX hY h he hC hq
    obtain ⟨Y1, D1, v, q1, q2⟩ := hq
    obtain ⟨a, b, c, d⟩ := do_link hrw hr hX hY h (he e List.mem_cons_self) hC q1
    have ok := doX_ok (C := C) hX hr (he e List.mem_cons_self)
    have hi := ih _ Y1 Y' _ D1 D' (u + v) u' ok.1 d a (fun x hx => (he x (List.mem_cons_of_mem _ hx)).mono ok.2) b q2
    rw [c] at hi
    simp only [runX]
    exact ⟨hi.1, hi.2.1, hi.2.2.1, hi.2.2.2.1, Nat.le_trans ok.2 hi.2.2.2.2⟩
