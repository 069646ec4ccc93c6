/-! ===== 78: what the class's cells hold, against the pure state ===== -/
def RowsEq (I : Nat → Nat → Int) (T : Nat) (X : TS) : Prop := I T 0 = (X.1 : Int) ∧ ∀ t, t < X.1 → I (T + 1) t = X.2.1 t ∧ I (T + 2) t = X.2.2.1 t ∧ I (T + 3) t = X.2.2.2.1 t ∧ I (T + 4) t = X.2.2.2.2.1 t ∧ I (T + 5) t = X.2.2.2.2.2 t
theorem RowsEq.ts {I : Nat → Nat → Int} {X : TS} (h : RowsEq I 2 X) : TsEq X (tsOf I X.1) := ⟨rfl, h.2⟩
theorem RowsEq.of {I : Nat → Nat → Int} {X : TS} (h0 : I 2 0 = (X.1 : Int)) (h : TsEq X (tsOf I X.1)) : RowsEq I 2 X := ⟨h0, h.2⟩
theorem RowsEq.cg {I : Nat → Nat → Int} {T : Nat} {X Y : TS} (h : RowsEq I T X) (e : TsEq X Y) : RowsEq I T Y := ⟨by rw [e.1]; exact h.1, fun t ht => by
  rw [e.1] at ht
  obtain ⟨a, b, c, d, f⟩ := h.2 t ht
  obtain ⟨a', b', c', d', f'⟩ := e.2 t ht
  exact ⟨a.trans a'.symm, b.trans b'.symm, c.trans c'.symm, d.trans d'.symm, f.trans f'.symm⟩⟩
theorem TsOK.cg {X Y : TS} (h : TsOK X) (e : TsEq X Y) : TsOK Y := by
  obtain ⟨y1, y2, y3, y4⟩ := h
  refine ⟨by rw [e.1]; exact y1, ?_, by rw [e.1]; exact HO_cg (fun t ht => (e.2 t ht).2.2.2.2) y3, fun t ht => by rw [e.1] at ht; rw [(e.2 t ht).2.2.2.1]; exact y4 t ht⟩
  rw [e.1]
  intro t ht
  obtain ⟨k1, k2, k3, _⟩ := e.2 t ht
  rw [k1, k2, k3]
  exact y2 t ht
theorem XOK.cg {X Y : TS} (h : XOK X) (e : TsEq X Y) : XOK Y := ⟨h.1.cg e, by
  rw [e.1]
  exact HClosed_cg (fun t ht => ⟨(e.2 t ht).1, (e.2 t ht).2.1, (e.2 t ht).2.2.1⟩) (fun t ht => (e.2 t ht).2.2.2.2) h.2⟩
def prS (S : tmS) (r : Nat) : Nat := (S.2.2.2 8 r).getD 0
def szS (S : tmS) (I : Nat → Nat → Int) (r : Nat) : Nat := (I (prS S r) 0).toNat
def lfS (S : tmS) (I : Nat → Nat → Int) (r : Nat) : Nat := (I (prS S r) 1).toNat
theorem RulesAt.ws {S : tmS} {I : Nat → Nat → Int} {rl : RuL} (h : RulesAt S I 1 rl) : RWs S I rl (prS S) (szS S I) (lfS S I) ∧ RulesOK S I rl.length (prS S) (szS S I) (lfS S I) ∧ RuleRs I rl.length (prS S) (szS S I) (lfS S I) ∧ RlOK rl := by
  have key : ∀ r, r < rl.length → S.2.2.2 8 r = some (prS S r) ∧ RuleW S I (prS S r) (szS S I r) (lfS S I r) ∧ RuleR I (prS S r) (szS S I r) (lfS S I r) ∧ RepP I (prS S r) (szS S I r) (lfS S I r) (rlL rl r) (rlR rl r) := by
    intro r hr
    obtain ⟨p, h1, sz, lf, h2, h3, h4⟩ := h.2.2 r rl[r] (List.getElem?_eq_getElem hr)
    have hp : prS S r = p := by unfold prS; have : S.2.2.2 8 r = some p := h1; rw [this]; rfl
    have hz : szS S I r = sz := by unfold szS; rw [hp, h2.2.2.1]; simp
    have hf : lfS S I r = lf := by unfold lfS; rw [hp, h2.2.2.2.1]; simp
    have e : rl.getD r ([], []) = rl[r] := by rw [List.getD_eq_getElem?_getD, List.getElem?_eq_getElem hr]; rfl
    unfold rlL rlR
    rw [e, hp, hz, hf]
    exact ⟨h1, h2, h3, h4⟩
  refine ⟨fun r hr => (key r hr).2, ⟨h.1, h.2.1, fun r hr => ⟨(key r hr).1, (key r hr).2.1⟩⟩, fun r hr => (key r hr).2.2.1, fun w hw => ?_⟩
  obtain ⟨r, hr, rfl⟩ := List.getElem_of_mem hw
  obtain ⟨_, k1, k2, k3⟩ := key r hr
  have := rep_RuOK k1 k2 k3
  have e : rl.getD r ([], []) = rl[r] := by rw [List.getD_eq_getElem?_getD, List.getElem?_eq_getElem hr]; rfl
  unfold rlL rlR at this
  rw [e] at this
  exact this
theorem prS_ge {S : tmS} {I : Nat → Nat → Int} {rl : RuL} (h : RulesAt S I 1 rl) {r : Nat} (hr : r < rl.length) : 192 ≤ prS S r := (h.ws.1 r hr).1.1
/-- now: TERMS, CLASSES, RULES, the table, what was found -/
def NowR (S : tmS) (I : Nat → Nat → Int) (L : Nat → Nat → Int64) (X : TS) (rl : RuL) : Prop := RowsEq I 2 X ∧ XOK X ∧ TabOK X.1 (I 3) (I 4) (I 5) (I 7) (I 134) ∧ (∃ us, PlOK I us) ∧ RulesAt S I 1 rl ∧ CacheOK I L (prS S) (lfS S I) X.1 rl.length
theorem NowR.tinv {S : tmS} {I : Nat → Nat → Int} {L : Nat → Nat → Int64} {X : TS} {rl : RuL} (h : NowR S I L X rl) : TInv I X.1 := by
  have hk := h.2.1.1.cg h.1.ts
  exact ⟨h.1.1, hk.1, hk.2.1, hk.2.2.1, h.2.2.1, hk.2.2.2⟩
theorem NowR.ent {S : tmS} {I : Nat → Nat → Int} {L : Nat → Nat → Int64} {X : TS} {rl : RuL} (h : NowR S I L X rl) {r : Nat} (hr : r < rl.length) : ENT I (prS S) (lfS S I) X.1 r = fnd6 X (rlL rl r) r := by
  obtain ⟨w1, w2, w3⟩ := h.2.2.2.2.1.ws.1 r hr
  rw [rep_ENT h.tinv w1 w3]
  have e := h.1.ts
  have hp : ∀ K, K < 2604 → I 134 K = plT X K := fun K hK => by
    have := plT_tab (X := tsOf I X.1) (pl := I 134) h.2.2.1 hK
    rw [this, plT_cg e]
  have hls : lsOf I X.1 = lsX X := lsX_cg e
  unfold fnd6
  rw [← hls]
  exact ENW6_cg (fun t ht => (e.2 t ht).2.2.2.2) hp
theorem NowR.tds {S : tmS} {I : Nat → Nat → Int} {L : Nat → Nat → Int64} {X : TS} {rl : RuL} (h : NowR S I L X rl) (lim : Int) : TDS I (prS S) (lfS S I) X.1 lim rl.length = tdsX X rl lim ∧ nLate I (prS S) (lfS S I) X.1 lim rl.length = lateX X rl lim rl.length := by
  constructor
  · unfold TDS tdsX
    exact flatMap_cg _ (fun r hr => by rw [h.ent (List.mem_range.mp hr)])
  · have : ∀ k, k ≤ rl.length → nLate I (prS S) (lfS S I) X.1 lim k = lateX X rl lim k := by
      intro k
      induction k with
      | zero => intro _; rfl
      | succ k ih => intro hk; simp only [nLate, lateX]; rw [ih (by omega), h.ent (by omega)]
    exact this _ (Nat.le_refl _)
theorem NowR.eg {S : tmS} {I : Nat → Nat → Int} {L : Nat → Nat → Int64} {X : TS} {rl : RuL} (h : NowR S I L X rl) {lim : Int} (hl : lim ≤ 9) {e : E6} (he : e ∈ tdsX X rl lim) : EG X.1 rl e := by
  obtain ⟨w1, w2, w3, w4⟩ := h.2.2.2.2.1.ws
  rw [← (h.tds lim).1] at he
  obtain ⟨g1, g2⟩ := TDS_good h.tinv w2 hl he
  refine ⟨g1.1, g1.2.1, g1.2.2, fun s hs h7 => ?_⟩
  have hr : e.1.toNat < rl.length := by have := g1.1; omega
  obtain ⟨v1, v2, v3⟩ := w1 _ hr
  have hok := rep_RuOK v1 v2 v3
  have hs9 := hok.2.1 s hs
  have hsl : s ∈ rlL rl e.1.toNat := hok.2.2.1 s hs h7
  obtain ⟨a1, a2, a3, a4, a5, a6, a7, a8, a9, a10⟩ := v3
  rw [← a5] at hsl
  obtain ⟨j, j1, j2, j3⟩ := (pf_mem a1 a2 (i := lfS S I e.1.toNat - 1) (by omega) (by omega) s).mp hsl
  exact g2 (s - 7).toNat (by omega) ⟨j, by omega, by omega⟩
/-- a state that is kept -/
def StC (S : tmS) (I : Nat → Nat → Int) (A : Nat) (st : TS × RuL) : Prop := RowsEq I (A + 1) st.1 ∧ RulesAt S I A st.2
def PastR (S : tmS) (I : Nat → Nat → Int) (past : List (TS × RuL)) : Prop := ∃ k : Nat, I 14 1 = (k : Int) ∧ k < 9 ∧ I 14 2 = (past.length : Int) ∧ past.length ≤ 8 ∧ ∀ (i : Nat) (st : TS × RuL), past[i]? = some st → StC S I (16 + 13 * ((k + 9 - past.length + i) % 9)) st ∧ XOK st.1
def PRows (S : tmS) : Prop := PRow S 1 ∧ ∀ k, k < 9 → PRow S (16 + 13 * k)
/-- order, limit, refusals (m at most), counts, text -/
def MiscR (I : Nat → Nat → Int) (m : Nat) (od lim : Int) (rf ct : Nat → Int) (nb : Nat) (tx : Nat → Int) : Prop :=
  (I 0 9 = od ∧ 0 ≤ od ∧ od ≤ 3) ∧ (I 0 10 = lim ∧ 0 ≤ lim ∧ lim ≤ 9) ∧ (∀ j, j < 3 → I 167 j = rf j ∧ 0 ≤ rf j ∧ rf j ≤ m) ∧ (∀ j, j < 5 → I 154 j = ct j) ∧ (I 155 1 = (nb : Int) ∧ nb ≤ 120 ∧ ∀ i, i < nb → I 156 i = tx i ∧ 0 ≤ tx i ∧ tx i ≤ 127) ∧ ∃ d : Nat, I 155 7 = (d : Int)
theorem NowR.fr {S S' : tmS} {I I' : Nat → Nat → Int} {L L' : Nat → Nat → Int64} {X : TS} {rl : RuL} (h : NowR S I L X rl) (hp : PatFr S I S' I') (h8 : ∀ r, r < 6 → S'.2.2.2 8 r = S.2.2.2 8 r) (e : ∀ a, (1 ≤ a ∧ a ≤ 7) ∨ (133 ≤ a ∧ a ≤ 135) ∨ a = 143 ∨ a = 144 → I' a = I a) (el : L' 145 = L 145) : NowR S' I' L' X rl := by
  obtain ⟨n1, n2, n3, ⟨us, n4⟩, n5, n6⟩ := h
  have r5 : RulesAt S' I' 1 rl := n5.pf hp (by rw [e 1 (by omega)]) h8
  refine ⟨⟨by rw [e 2 (by omega)]; exact n1.1, fun t ht => ?_⟩, n2, ?_, ⟨us, ?_⟩, r5, ?_⟩
  · rw [e 3 (by omega), e 4 (by omega), e 5 (by omega), e 6 (by omega), e 7 (by omega)]; exact n1.2 t ht
  · rw [e 3 (by omega), e 4 (by omega), e 5 (by omega), e 7 (by omega), e 134 (by omega)]; exact n3
  · unfold PlOK
    rw [e 133 (by omega), e 135 (by omega), e 134 (by omega)]; exact n4
  · intro r hr h143
    have hr6 : r < 6 := by have := n5.2.1; omega
    have e0 : prS S' r = prS S r := by unfold prS; rw [h8 r hr6]
    obtain ⟨w, g0, g1, g2, g3, g4⟩ := ((n5.ws.1 r hr).1).pf hp
    have e1 : lfS S' I' r = lfS S I r := by unfold lfS; rw [e0, g0]
    rw [e 143 (by omega)] at h143
    have := n6 r hr h143
    unfold Found FNDS ENr PlF GnF lsOf at this ⊢
    rw [e0, e1, el, e 144 (by omega), g1, g2, g3, e 7 (by omega), e 6 (by omega), e 134 (by omega)]
    exact this
theorem StC.fr {S S' : tmS} {I I' : Nat → Nat → Int} {A A' : Nat} {st : TS × RuL} (h : StC S I A st) (hp : PatFr S I S' I') (e0 : I' A' 2 = I A 2) (e1 : I' (A' + 1) 0 = I (A + 1) 0) (e2 : ∀ i, 1 ≤ i → i ≤ 5 → ∀ t, t < st.1.1 → I' (A' + 1 + i) t = I (A + 1 + i) t) (er : ∀ q, q < 6 → S'.2.2.2 (A' + 7) q = S.2.2.2 (A + 7) q) : StC S' I' A' st := by
  refine ⟨⟨by rw [e1]; exact h.1.1, fun t ht => ?_⟩, h.2.pf hp e0 er⟩
  rw [e2 1 (by omega) (by omega) t ht, e2 2 (by omega) (by omega) t ht, e2 3 (by omega) (by omega) t ht, e2 4 (by omega) (by omega) t ht, e2 5 (by omega) (by omega) t ht]
  exact h.1.2 t ht
theorem PastR.fr {S S' : tmS} {I I' : Nat → Nat → Int} {past : List (TS × RuL)} (h : PastR S I past) (hp : PatFr S I S' I') (e : ∀ a, 14 ≤ a → a ≤ 132 → I' a = I a) (er : ∀ a, 16 ≤ a → a ≤ 132 → S'.2.2.2 a = S.2.2.2 a) : PastR S' I' past := by
  obtain ⟨k, h1, h2, h3, h4, h5⟩ := h
  refine ⟨k, by rw [e 14 (by omega) (by omega)]; exact h1, h2, by rw [e 14 (by omega) (by omega)]; exact h3, h4, fun i st hi => ?_⟩
  obtain ⟨a, b⟩ := h5 i st hi
  have hm : (k + 9 - past.length + i) % 9 < 9 := Nat.mod_lt _ (by decide)
  refine ⟨a.fr hp (by rw [e _ (by omega) (by omega)]) (by rw [e _ (by omega) (by omega)]) (fun j j1 j2 t _ => by rw [e _ (by omega) (by omega)]) (fun q _ => by rw [er _ (by omega) (by omega)]), b⟩
theorem MiscR.fr {I I' : Nat → Nat → Int} {m m' : Nat} {od lim : Int} {rf ct : Nat → Int} {nb : Nat} {tx : Nat → Int} (h : MiscR I m od lim rf ct nb tx) (hm : m ≤ m') (e : ∀ a, a = 0 ∨ a = 154 ∨ a = 156 ∨ a = 167 → I' a = I a) (e5 : I' 155 1 = I 155 1) (e7 : ∃ d : Nat, I' 155 7 = (d : Int)) : MiscR I' m' od lim rf ct nb tx := by
  obtain ⟨h1, h2, h3, h4, h5, h6⟩ := h
  refine ⟨by rw [e 0 (by omega)]; exact h1, by rw [e 0 (by omega)]; exact h2, fun j hj => ?_, fun j hj => by rw [e 154 (by omega)]; exact h4 j hj, ⟨by rw [e5]; exact h5.1, h5.2.1, fun i hi => by rw [e 156 (by omega)]; exact h5.2.2 i hi⟩, e7⟩
  rw [e 167 (by omega)]
  have := h3 j hj
  exact ⟨this.1, this.2.1, by omega⟩
theorem PRow.fr {S S' : tmS} {A A' : Nat} (h : PRow S A) (hs : S.1 ≤ S'.1) (hk : ∀ a, a < S.1 → S'.2.1 a = S.2.1 a) (er : ∀ q, q < 6 → S'.2.2.2 (A' + 7) q = S.2.2.2 (A + 7) q) : PRow S' A' := by
  intro r hr
  obtain ⟨p, h1, h2⟩ := h r hr
  exact ⟨p, by rw [er r hr]; exact h1, by have := h2.1; omega, (hk p h2.1).trans h2.2⟩
/-- all of the class -/
abbrev AS : Type := (TS × RuL) × List (TS × RuL) × (Int × Int) × (Nat → Int) × (Nat → Int) × Nat × (Nat → Int)
def CR (S : tmS) (I : Nat → Nat → Int) (L : Nat → Nat → Int64) (m : Nat) (A : AS) : Prop := LX S ∧ NowR S I L A.1.1 A.1.2 ∧ PastR S I A.2.1 ∧ PRows S ∧ MiscR I m A.2.2.1.1 A.2.2.1.2 A.2.2.2.1 A.2.2.2.2.1 A.2.2.2.2.2.1 A.2.2.2.2.2.2
/-- the reference's cells, which the class leaves as they are -/
def MFr (S : tmS) (I : Nat → Nat → Int) (S' : tmS) (I' : Nat → Nat → Int) : Prop := ∀ a, 168 ≤ a → a < 192 → I' a = I a
