/-! ===== 72: Text.sentence does what the words say ===== -/
theorem skp_id {b : Nat → Int} {n p : Nat} : skp b n (skp b n p) = skp b n p := by
  have key : ∀ k p, p + k = n → skp b n (skp b n p) = skp b n p := by
    intro k
    induction k with
    | zero => intro p hp; rw [skp_end (p := p) (by omega), skp_end (by omega)]
    | succ k ih =>
      intro p hp
      by_cases h : b p = 32
      · rw [skp_sp (by omega) h]; exact ih (p + 1) (by omega)
      · rw [skp_no (p := p) (by omega) h, skp_no (by omega) h]
  by_cases h : p ≤ n
  · exact key (n - p) p (by omega)
  · rw [skp_end (p := p) (by omega), skp_end (by omega)]
theorem tk_skp {b : Nat → Int} {n p : Nat} {c : Int} : (tkB b n (skp b n p) c ↔ byt b n (skp b n p) = c) ∧ (byt b n (skp b n p) = c → tkP b n (skp b n p) c = skp b n p + 1) ∧ (byt b n (skp b n p) ≠ c → tkP b n (skp b n p) c = skp b n p) := by
  have e : tkB b n (skp b n p) c ↔ byt b n (skp b n p) = c := by unfold tkB; rw [skp_id]
  refine ⟨e, fun h => ?_, fun h => ?_⟩
  · unfold tkP; rw [if_pos (e.mpr h), skp_id]
  · unfold tkP; rw [if_neg (fun q => h (e.mp q)), skp_id]
theorem WFN_cg {m : Nat} {sg on ot sg' on' ot' : Nat → Int} (h : WFN m sg on ot) (e : ∀ i, i < m → sg' i = sg i ∧ on' i = on i ∧ ot' i = ot i) : WFN m sg' on' ot' := by
  intro i hi
  obtain ⟨a, b, c⟩ := e i hi
  rw [a, b, c]
  exact h i hi
theorem WFS_cg {m : Nat} {sg on ot st sg' on' ot' st' : Nat → Int} (hn : WFN m sg on ot) (h : WFS m sg on ot st) (e : ∀ i, i < m → sg' i = sg i ∧ on' i = on i ∧ ot' i = ot i ∧ st' i = st i) : WFS m sg' on' ot' st' := by
  intro i hi
  obtain ⟨a, b, c, d⟩ := e i hi
  have w := hn i hi
  obtain ⟨k1, k2, k3, k4⟩ := h i hi
  rw [a, b, c, d]
  refine ⟨k1, k2, k3, fun h7 => ?_⟩
  obtain ⟨j1, j2, j3⟩ := k4 h7
  refine ⟨fun z => ?_, fun z => ?_, ?_⟩
  · rw [(e (on i).toNat (by omega)).2.2.2]; exact j1 z
  · rw [(e (ot i).toNat (by omega)).2.2.2]; exact j2 z
  · rcases j3 with q | ⟨q1, q2⟩ | ⟨q1, q2⟩
    · exact Or.inl q
    · exact Or.inr (Or.inl ⟨q1, by rw [(e (on i).toNat (by omega)).2.2.2]; exact q2⟩)
    · exact Or.inr (Or.inr ⟨q1, by rw [(e (ot i).toNat (by omega)).2.2.2]; exact q2⟩)
/-- the Pattern that copied leaves is the RULE that was read -/
theorem new_rule {S2 : tmS} {I1 I2 : Nat → Nat → Int} {p0 m r1 r2 : Nat} {Z1 Z2 : ZS} {wl wr : List Int} (h192 : 192 ≤ p0) (hl : LPat S2 p0 Z2.1) (he : PatEq I1 I2 p0 157 Z2.1) (z0 : I1 157 0 = (Z2.1 : Int)) (zl : I1 157 1 = (Z1.1 : Int)) (e1 : I1 158 = Z2.2.1) (e2 : I1 159 = Z2.2.2.1) (e3 : I1 160 = Z2.2.2.2.1) (e4 : I1 161 = Z2.2.2.2.2.1) (h120 : Z2.1 ≤ 120)
    (s1 : SdI 0 7 0 Z1 (fun j => j + 1 = Z1.1)) (p1 : 0 < Z1.1) (hk : ZKp Z1 Z2) (s2 : SdI Z1.1 m 0 Z2 (fun j => j + 1 = Z2.1)) (p2 : Z1.1 < Z2.1) (hm : m = tmLet Z1.2.1 Z1.1 0 0) (hroot : ¬ (Z1.1 = 1 ∧ m ≠ 0))
    (w1 : WI 0 0 Z1) (a1 : Z1.1 = r1 + 1) (a2 : r1 + 1 = 0 + (zP Z1 r1).length) (a3 : zP Z1 r1 = wl) (w2 : WI Z1.1 0 Z2) (b0 : Z1.1 ≤ r2) (b1 : Z2.1 = r2 + 1) (b2 : r2 + 1 = Z1.1 + (zP Z2 r2).length) (b3 : zP Z2 r2 = wr) : RuleA S2 I2 p0 wl wr := by
  obtain ⟨k1, k2, k3, k4, k5, k6⟩ := sides_rule s1 p1 hk s2 p2 hm hroot
  have ee : ∀ i, i < Z2.1 → I2 (p0 + 1) i = Z2.2.1 i ∧ I2 (p0 + 2) i = Z2.2.2.1 i ∧ I2 (p0 + 3) i = Z2.2.2.2.1 i ∧ I2 (p0 + 4) i = Z2.2.2.2.2.1 i := fun i hi => by
    refine ⟨(he.2.2 1 (by decide) (by decide) i hi).trans ?_, (he.2.2 2 (by decide) (by decide) i hi).trans ?_, (he.2.2 3 (by decide) (by decide) i hi).trans ?_, (he.2.2 4 (by decide) (by decide) i hi).trans ?_⟩
    · rw [e1]
    · rw [e2]
    · rw [e3]
    · rw [e4]
  refine ⟨Z2.1, Z1.1, ⟨h192, hl, he.1.trans z0, he.2.1.trans zl, p1, p2, h120, WFN_cg k1 (fun i hi => ⟨(ee i hi).1, (ee i hi).2.1, (ee i hi).2.2.1⟩), WFS_cg k1 k2 ee, ?_, fun j hj => ?_⟩, ⟨fun i i1 i2 => ?_, fun i i1 i2 i3 => ?_⟩, rep_of w1 a1 a2 a3 hk w2 b0 b1 b2 b3 (fun i hi => ⟨(ee i hi).1, (ee i hi).2.1, (ee i hi).2.2.1⟩)⟩
  · rw [(ee _ (by omega)).1]; exact k3
  · obtain ⟨i, i1, i2⟩ := k4 j hj
    exact ⟨i, i1, by rw [(ee i (by omega)).2.1, (ee i (by omega)).2.2.1]; exact i2⟩
  · rw [(ee i i2).2.1, (ee i i2).2.2.1]; exact k5 i i1 i2
  · rw [(ee i i2).1] at i3 ⊢
    obtain ⟨j, j1, j2⟩ := k6 i i1 i2 i3
    exact ⟨j, j1, by rw [(ee j (by omega)).1]; exact j2⟩
/-- the cells that reading a text leaves as they are -/
def TxtFr (S : tmS) (I : Nat → Nat → Int) (L : Nat → Nat → Int64) (S' : tmS) (I' : Nat → Nat → Int) (L' : Nat → Nat → Int64) : Prop :=
  (S.1 ≤ S'.1 ∧ (PRow S 1 → PRow S' 1)) ∧ (∀ a, a < S.1 → S'.2.1 a = S.2.1 a ∧ S'.2.2.1 a = S.2.2.1 a ∧ (a ≠ 8 → S'.2.2.2 a = S.2.2.2 a) ∧ L' a = L a) ∧ (∀ a, a < S.1 → (a = 0 ∨ 8 ≤ a) → a ≠ 142 → a ≠ 155 → ¬ (157 ≤ a ∧ a ≤ 163) → I' a = I a) ∧ I' 155 1 = I 155 1
theorem TxtFr.rfl' {S : tmS} {I : Nat → Nat → Int} {L : Nat → Nat → Int64} : TxtFr S I L S I L := ⟨⟨Nat.le_refl _, id⟩, fun _ _ => ⟨rfl, rfl, fun _ => rfl, rfl⟩, fun _ _ _ _ _ _ => rfl, rfl⟩
theorem TxtFr.trans {S S1 S2 : tmS} {I I1 I2 : Nat → Nat → Int} {L L1 L2 : Nat → Nat → Int64} (h : TxtFr S I L S1 I1 L1) (g : TxtFr S1 I1 L1 S2 I2 L2) : TxtFr S I L S2 I2 L2 := by
  obtain ⟨h1, h2, h3, h4⟩ := h
  obtain ⟨g1, g2, g3, g4⟩ := g
  have h11 := h1.1
  refine ⟨⟨Nat.le_trans h1.1 g1.1, fun z => g1.2 (h1.2 z)⟩, fun a ha => ?_, fun a ha a1 a2 a3 a4 => (g3 a (by omega) a1 a2 a3 a4).trans (h3 a ha a1 a2 a3 a4), g4.trans h4⟩
  obtain ⟨x, y, z, w⟩ := h2 a ha
  obtain ⟨x', y', z', w'⟩ := g2 a (by omega)
  exact ⟨x'.trans x, y'.trans y, fun q => (z' q).trans (z q), w'.trans w⟩
theorem TxtFr.lx {S S' : tmS} {I I' : Nat → Nat → Int} {L L' : Nat → Nat → Int64} (h : TxtFr S I L S' I' L') (hL : LX S) : LX S' := by
  obtain ⟨h1, h2, h3, h4⟩ := h
  refine ⟨Nat.le_trans hL.1 h1.1, fun i hi => ?_, fun q hq => ?_⟩
  · rw [(h2 i (by have := hL.1; omega)).1, (h2 i (by have := hL.1; omega)).2.1]; exact hL.2.1 i hi
  · have := lxR_lt q hq
    have h8 : q.1 ≠ 8 := by
      have : ∀ q ∈ lxR, q.1 ≠ 8 := by decide +kernel
      exact this q hq
    rw [(h2 q.1 (by have := hL.1; omega)).2.2.1 h8]; exact hL.2.2 q hq
theorem TxtFr.pf {S S' : tmS} {I I' : Nat → Nat → Int} {L L' : Nat → Nat → Int64} (h : TxtFr S I L S' I' L') : PatFr S I S' I' := ⟨h.1.1, fun a a1 a2 => ⟨(h.2.1 a a2).1, (h.2.1 a a2).2.1, (h.2.1 a a2).2.2.1 (by omega), h.2.2.1 a a2 (by omega) (by omega) (by omega) (by omega)⟩⟩
theorem TxL.tf {S : tmS} {I I' : Nat → Nat → Int} {L : Nat → Nat → Int64} (h : TxL I I') : TxtFr S I L S I' L := ⟨⟨Nat.le_refl _, id⟩, fun _ _ => ⟨rfl, rfl, fun _ => rfl, rfl⟩, fun a _ _ _ a5 a6 => h.1 a a5 (by omega) (by omega) (by omega) (by omega) (by omega) (by omega) (by omega), h.2 1 (by decide) (by decide)⟩
section S72
variable {S : tmS} {I : Nat → Nat → Int} {L : Nat → Nat → Int64}
abbrev SwwPost (S : tmS) (I : Nat → Nat → Int) (L : Nat → Nat → Int64) (W : Bool × Nat × TS × RuL) : Option tmV → tmH → Prop := fun q h' => ∃ S' I' L', h' = (S', I', L') ∧ TxtFr S I L S' I' L' ∧ q = some (tI (if W.1 = true then 1 else 0)) ∧ I' 155 8 = (W.2.1 : Int) ∧ (∃ d : Nat, I' 155 7 = (d : Int)) ∧ (W.1 = true → I' 2 0 = (W.2.2.1.1 : Int) ∧ tsOf I' W.2.2.1.1 = W.2.2.1 ∧ RulesAt S' I' 1 W.2.2.2)
theorem tsFr {I1 I' : Nat → Nat → Int} (h1 : TxL I I1) (h2 : ∀ a, 8 ≤ a → a ≠ 142 → a ≠ 155 → I' a = I1 a) (h3 : I' 0 = I1 0) (h4 : ∀ k, k ≠ 8 → I' 155 k = I1 155 k) : TxtFr S I L S I' L :=
  h1.tf.trans ⟨⟨Nat.le_refl _, id⟩, fun _ _ => ⟨rfl, rfl, fun _ => rfl, rfl⟩, fun a _ a1 a2 a3 _ => by
    rcases a1 with e | e
    · subst e; exact h3
    · exact h2 a e a2 a3, h4 1 (by decide)⟩
end S72
