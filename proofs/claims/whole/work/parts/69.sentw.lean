/-! ===== 69: a SENTENCE by words (no machine) ===== -/
abbrev RuL : Type := List (List Int × List Int)
abbrev sideW (b : Nat → Int) (n may p : Nat) : Bool × Nat × List Int := sdW b n may 121 [] [] p
theorem rdS_word {b : Nat → Int} {n may : Nat} (Z : ZS) : (rdS b n may Z).1 = (sideW b n may Z.2.2.2.2.2.2.2).1 ∧ (rdS b n may Z).2.2.2.2.2.2.2.2.2 = (sideW b n may Z.2.2.2.2.2.2.2).2.1 ∧
    ((rdS b n may Z).1 = true → WI Z.1 0 (rdS b n may Z).2.2 ∧ ∃ r, Z.1 ≤ r ∧ (rdS b n may Z).2.2.1 = r + 1 ∧ r + 1 = Z.1 + (zP (rdS b n may Z).2.2 r).length ∧ zP (rdS b n may Z).2.2 r = (sideW b n may Z.2.2.2.2.2.2.2).2.2) :=
  rdZ_word (fr := Z.1) 121 0 Z ⟨fun i a b => by omega, fun i a b => by omega, fun k hk => by omega⟩ (Nat.le_refl _) (by simp [zW, stW])
/-- both sides of a RULE as read spell its words -/
theorem rep_of {Z1 Z2 : ZS} {r1 r2 : Nat} {wl wr : List Int} (w1 : WI 0 0 Z1) (a1 : Z1.1 = r1 + 1) (a2 : r1 + 1 = 0 + (zP Z1 r1).length) (a3 : zP Z1 r1 = wl) (hk : ZKp Z1 Z2) (w2 : WI Z1.1 0 Z2) (b0 : Z1.1 ≤ r2) (b1 : Z2.1 = r2 + 1) (b2 : r2 + 1 = Z1.1 + (zP Z2 r2).length) (b3 : zP Z2 r2 = wr)
    {I : Nat → Nat → Int} {p : Nat} (e : ∀ i, i < Z2.1 → I (p + 1) i = Z2.2.1 i ∧ I (p + 2) i = Z2.2.2.1 i ∧ I (p + 3) i = Z2.2.2.2.1 i) : RepP I p Z2.1 Z1.1 wl wr := by
  obtain ⟨c1, c2, c3⟩ := w1
  obtain ⟨d1, d2, d3⟩ := w2
  have eL : ∀ i, 0 ≤ i → i < Z1.1 → I (p + 1) i = Z1.2.1 i ∧ I (p + 2) i = Z1.2.2.1 i ∧ I (p + 3) i = Z1.2.2.2.1 i := fun i _ hi => by
    obtain ⟨x, y, z⟩ := e i (by omega)
    obtain ⟨u, v, w, _⟩ := hk.2 i hi
    exact ⟨x.trans u, y.trans v, z.trans w⟩
  have eR : ∀ i, Z1.1 ≤ i → i < Z2.1 → I (p + 1) i = Z2.2.1 i ∧ I (p + 2) i = Z2.2.2.1 i ∧ I (p + 3) i = Z2.2.2.2.1 i := fun i _ hi => e i hi
  refine ⟨c1.cg (fun i i1 i2 => (eL i i1 i2).2), POs.cg c1 eL c2, d1.cg (fun i i1 i2 => (eR i i1 i2).2), POs.cg d1 eR d2, ?_, ?_, ?_, ?_, by omega, by omega⟩
  · rw [show Z1.1 - 1 = r1 by omega, pf_cg c1 eL (fun _ => by omega) (by omega)]; exact a3
  · rw [← a3]; omega
  · rw [show Z2.1 - 1 = r2 by omega, pf_cg d1 eR (fun _ => by omega) (by omega)]; exact b3
  · rw [← b3]; omega
/-- GENERATION 0 for some -/
def gzL : List Int → (Nat → Int) → Nat → Int
  | [], g => g
  | t :: ms, g => gzL ms (va_up g t.toNat 0)
theorem gzL_app : ∀ (ms ms2 : List Int) (g : Nat → Int), gzL (ms ++ ms2) g = gzL ms2 (gzL ms g) := by
  intro ms
  induction ms with
  | nil => intro ms2 g; rfl
  | cons t ms ih => intro ms2 g; exact ih ms2 _
theorem gzR_gzL {md : Nat → Int} : ∀ (k : Nat) (g : Nat → Int), gzR md k g = gzL (mdL md k 0) g := by
  intro k
  induction k with
  | zero => intro g; rfl
  | succ k ih =>
    intro g
    rw [mdL_app md k 1 0, gzL_app, ← ih]
    simp only [gzR, mdL, gzL, Nat.zero_add]
def lastI (ms : List Int) : Nat := (ms.getLastD (-1)).toNat
/-- TERMS told: GENERATION 0, two become ALIKE -/
def endW (X : TS) (ms : List Int) (t u : Nat) : TS := (X.1, X.2.1, X.2.2.1, X.2.2.2.1, gzL ms X.2.2.2.2.1, tmJn X.1 X.2.2.2.2.2 (X.2.2.2.2.2 t) (X.2.2.2.2.2 u))
def trmW (X : TS) (w : List Int) (v : Option (List Int)) : Option TS := (bW (fun _ => 0) 0 w [] X []).bind (fun q => match v with
  | none => some (endW q.1 q.2 (lastI q.2) (lastI q.2))
  | some v => (bW (fun _ => 0) 0 v [] q.1 []).map (fun o => endW o.1 (q.2 ++ o.2) (lastI q.2) (lastI o.2)))
/-- a SENTENCE: whether it is read, where the reading stands then, what it leaves -/
def sentW (b : Nat → Int) (n p : Nat) (X : TS) (rl : RuL) : Bool × Nat × TS × RuL :=
  if (sideW b n 7 p).1 = false then (false, (sideW b n 7 p).2.1, X, rl) else
  if byt b n (skp b n (sideW b n 7 p).2.1) = 62 then
    (if ((sideW b n 7 p).2.2.length = 1 ∧ letW (sideW b n 7 p).2.2 ≠ 0) ∨ 6 ≤ rl.length then (false, skp b n (sideW b n 7 p).2.1, X, rl) else
     if (sideW b n (letW (sideW b n 7 p).2.2) (skp b n (sideW b n 7 p).2.1 + 1)).1 = false then (false, (sideW b n (letW (sideW b n 7 p).2.2) (skp b n (sideW b n 7 p).2.1 + 1)).2.1, X, rl) else
     if tkB b n (sideW b n (letW (sideW b n 7 p).2.2) (skp b n (sideW b n 7 p).2.1 + 1)).2.1 59 then (true, tkP b n (sideW b n (letW (sideW b n 7 p).2.2) (skp b n (sideW b n 7 p).2.1 + 1)).2.1 59, X, rl ++ [((sideW b n 7 p).2.2, (sideW b n (letW (sideW b n 7 p).2.2) (skp b n (sideW b n 7 p).2.1 + 1)).2.2)])
     else (false, tkP b n (sideW b n (letW (sideW b n 7 p).2.2) (skp b n (sideW b n 7 p).2.1 + 1)).2.1 59, X, rl)) else
  if letW (sideW b n 7 p).2.2 ≠ 0 then (false, skp b n (sideW b n 7 p).2.1, X, rl) else
  if byt b n (skp b n (sideW b n 7 p).2.1) = 61 then
    (if (sideW b n 7 (skp b n (sideW b n 7 p).2.1 + 1)).1 = false then (false, (sideW b n 7 (skp b n (sideW b n 7 p).2.1 + 1)).2.1, X, rl) else
     if byt b n (skp b n (sideW b n 7 (skp b n (sideW b n 7 p).2.1 + 1)).2.1) = 59 ∧ letW (sideW b n 7 (skp b n (sideW b n 7 p).2.1 + 1)).2.2 = 0 then
       (match trmW X (sideW b n 7 p).2.2 (some (sideW b n 7 (skp b n (sideW b n 7 p).2.1 + 1)).2.2) with
        | none => (false, skp b n (sideW b n 7 (skp b n (sideW b n 7 p).2.1 + 1)).2.1, X, rl)
        | some Y => (true, skp b n (sideW b n 7 (skp b n (sideW b n 7 p).2.1 + 1)).2.1 + 1, Y, rl))
     else (false, skp b n (sideW b n 7 (skp b n (sideW b n 7 p).2.1 + 1)).2.1, X, rl)) else
  if byt b n (skp b n (sideW b n 7 p).2.1) = 59 then
    (match trmW X (sideW b n 7 p).2.2 none with
     | none => (false, skp b n (sideW b n 7 p).2.1, X, rl)
     | some Y => (true, skp b n (sideW b n 7 p).2.1 + 1, Y, rl))
  else (false, skp b n (sideW b n 7 p).2.1, X, rl)
/-- building without LETTERS -/
theorem bW_lt {lt lt' : Nat → Int} {g : Int} : ∀ (w : List Int) (st : WSt) (X : TS) (ms : List Int), (∀ s ∈ w, s < 7) → bW lt g w st X ms = bW lt' g w st X ms := by
  intro w
  induction w with
  | nil => intro st X ms _; rfl
  | cons s w ih =>
    intro st X ms h
    have h7 := h s List.mem_cons_self
    have hw : ∀ s ∈ w, s < 7 := fun x hx => h x (List.mem_cons_of_mem _ hx)
    simp only [bW]
    by_cases c : 4 ≤ s ∧ s ≤ 6
    · rw [if_pos c, if_pos c]; exact ih _ _ _ hw
    · rw [if_neg c, if_neg c, if_neg (by omega), if_neg (by omega)]
      congr 1
      funext o
      congr 1
      funext q
      exact ih _ _ _ hw
theorem letW_no {w : List Int} (h9 : ∀ s ∈ w, s ≤ 9) (h : letW w = 0) : ∀ s ∈ w, s < 7 := by
  intro s hs
  by_cases c : s < 7
  · exact c
  · exfalso
    have := h9 s hs
    have := (letW_bit (l := (s - 7).toNat) (by omega) h9).mpr (by rw [show 7 + (((s - 7).toNat : Nat) : Int) = s by omega]; exact hs)
    rw [h] at this
    simp at this
theorem mdL_last (md : Nat → Int) : ∀ k i, lastI (mdL md (k + 1) i) = (md (i + k)).toNat := by
  intro k i
  rw [mdL_app md k 1 i]
  simp [lastI, mdL, List.getLastD_concat]
/-- what a Pattern, and all that it spells, hangs on -/
def PatFr (S : tmS) (I : Nat → Nat → Int) (S' : tmS) (I' : Nat → Nat → Int) : Prop := S.1 ≤ S'.1 ∧ ∀ a, 192 ≤ a → a < S.1 → S'.2.1 a = S.2.1 a ∧ S'.2.2.1 a = S.2.2.1 a ∧ S'.2.2.2 a = S.2.2.2 a ∧ I' a = I a
theorem PatFr.rfl' {S : tmS} {I : Nat → Nat → Int} : PatFr S I S I := ⟨Nat.le_refl _, fun _ _ _ => ⟨rfl, rfl, rfl, rfl⟩⟩
theorem PatFr.trans {S S1 S2 : tmS} {I I1 I2 : Nat → Nat → Int} (h : PatFr S I S1 I1) (g : PatFr S1 I1 S2 I2) : PatFr S I S2 I2 := ⟨Nat.le_trans h.1 g.1, fun a a1 a2 => by
  obtain ⟨x, y, z, w⟩ := h.2 a a1 a2
  obtain ⟨x', y', z', w'⟩ := g.2 a a1 (by have := h.1; omega)
  exact ⟨x'.trans x, y'.trans y, z'.trans z, w'.trans w⟩⟩
theorem LPat.pf {S S' : tmS} {I I' : Nat → Nat → Int} {p m : Nat} (h : LPat S p m) (f : PatFr S I S' I') (hp : 192 ≤ p) : LPat S' p m := by
  obtain ⟨a1, a2, a3, a4, a5, a6, a7, a8, a9⟩ := h
  have o : ∀ a, 192 ≤ a → a < S.1 → S'.2.1 a = S.2.1 a ∧ S'.2.2.1 a = S.2.2.1 a ∧ S'.2.2.2 a = S.2.2.2 a ∧ I' a = I a := f.2
  have hs := f.1
  have hp1 := o p hp a1.1
  refine ⟨⟨by have := a1.1; omega, hp1.1.trans a1.2⟩, by rw [hp1.2.2.1]; exact a2, by rw [hp1.2.2.1]; exact a3, by rw [hp1.2.2.1]; exact a4, by rw [hp1.2.2.1]; exact a5, ?_, ?_, ?_, ?_⟩
  · have := o (p + 1) (by omega) a6.1; exact ⟨by have := a6.1; omega, this.1.trans a6.2.1, this.2.1.trans a6.2.2.1, a6.2.2.2⟩
  · have := o (p + 2) (by omega) a7.1; exact ⟨by have := a7.1; omega, this.1.trans a7.2.1, this.2.1.trans a7.2.2.1, a7.2.2.2⟩
  · have := o (p + 3) (by omega) a8.1; exact ⟨by have := a8.1; omega, this.1.trans a8.2.1, this.2.1.trans a8.2.2.1, a8.2.2.2⟩
  · have := o (p + 4) (by omega) a9.1; exact ⟨by have := a9.1; omega, this.1.trans a9.2.1, this.2.1.trans a9.2.2.1, a9.2.2.2⟩
/-- the Pattern at p is the RULE wl > wr -/
def RuleA (S : tmS) (I : Nat → Nat → Int) (p : Nat) (wl wr : List Int) : Prop := ∃ sz lf, RuleW S I p sz lf ∧ RuleR I p sz lf ∧ RepP I p sz lf wl wr
theorem RuleW.pf {S S' : tmS} {I I' : Nat → Nat → Int} {p sz lf : Nat} (h : RuleW S I p sz lf) (f : PatFr S I S' I') : RuleW S' I' p sz lf ∧ I' p = I p ∧ I' (p + 1) = I (p + 1) ∧ I' (p + 2) = I (p + 2) ∧ I' (p + 3) = I (p + 3) ∧ I' (p + 4) = I (p + 4) := by
  obtain ⟨q1, q2, q3, q4, q5, q6, q7, q8, q9, q10, q11⟩ := h
  have e0 := (f.2 p q1 q2.1.1).2.2.2
  have e1 := (f.2 (p + 1) (by omega) q2.2.2.2.2.2.1.1).2.2.2
  have e2 := (f.2 (p + 2) (by omega) q2.2.2.2.2.2.2.1.1).2.2.2
  have e3 := (f.2 (p + 3) (by omega) q2.2.2.2.2.2.2.2.1.1).2.2.2
  have e4 := (f.2 (p + 4) (by omega) q2.2.2.2.2.2.2.2.2.1).2.2.2
  refine ⟨?_, e0, e1, e2, e3, e4⟩
  unfold RuleW
  rw [e0, e1, e2, e3, e4]
  exact ⟨q1, q2.pf f q1, q3, q4, q5, q6, q7, q8, q9, q10, q11⟩
theorem RuleA.pf {S S' : tmS} {I I' : Nat → Nat → Int} {p : Nat} {wl wr : List Int} (h : RuleA S I p wl wr) (f : PatFr S I S' I') : RuleA S' I' p wl wr := by
  obtain ⟨sz, lf, a, b, c⟩ := h
  obtain ⟨a', e0, e1, e2, e3, e4⟩ := a.pf f
  refine ⟨sz, lf, a', ?_, c.cg e1 e2 e3⟩
  unfold RuleR
  rw [e1, e2, e3]
  exact b
/-- RULES of the State at A -/
def RulesAt (S : tmS) (I : Nat → Nat → Int) (A : Nat) (rl : RuL) : Prop := I A 2 = (rl.length : Int) ∧ rl.length ≤ 6 ∧ ∀ (r : Nat) (w : List Int × List Int), rl[r]? = some w → ∃ p, S.2.2.2 (A + 7) r = some p ∧ RuleA S I p w.1 w.2
theorem RulesAt.pf {S S' : tmS} {I I' : Nat → Nat → Int} {A A' : Nat} {rl : RuL} (h : RulesAt S I A rl) (f : PatFr S I S' I') (e : I' A' 2 = I A 2) (e2 : ∀ r, r < 6 → S'.2.2.2 (A' + 7) r = S.2.2.2 (A + 7) r) : RulesAt S' I' A' rl := by
  refine ⟨e.trans h.1, h.2.1, fun r w hr => ?_⟩
  obtain ⟨p, a, b⟩ := h.2.2 r w hr
  have : r < rl.length := by
    by_cases z : r < rl.length
    · exact z
    · rw [List.getElem?_eq_none (by omega)] at hr; cases hr
  have := h.2.1
  exact ⟨p, by rw [e2 r (by omega)]; exact a, b.pf f⟩
