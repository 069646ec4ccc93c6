/-! ===== 68: a RULE's Pattern spells two words; FINDINGS and building by words (no machine) ===== -/
/-- the Pattern at p spells wl > wr -/
def RepP (I : Nat → Nat → Int) (p sz lf : Nat) (wl wr : List Int) : Prop :=
  PW 0 lf (I (p + 2)) (I (p + 3)) ∧ POs 0 lf (I (p + 1)) (I (p + 2)) (I (p + 3)) ∧ PW lf sz (I (p + 2)) (I (p + 3)) ∧ POs lf sz (I (p + 1)) (I (p + 2)) (I (p + 3)) ∧
  pf (I (p + 1)) (I (p + 2)) (I (p + 3)) ((lf - 1 : Nat) : Int) = wl ∧ wl.length = lf ∧ pf (I (p + 1)) (I (p + 2)) (I (p + 3)) ((sz - 1 : Nat) : Int) = wr ∧ lf + wr.length = sz ∧ 1 ≤ lf ∧ lf < sz
theorem RepP.cg {I J : Nat → Nat → Int} {p sz lf : Nat} {wl wr : List Int} (h : RepP I p sz lf wl wr) (e1 : J (p + 1) = I (p + 1)) (e2 : J (p + 2) = I (p + 2)) (e3 : J (p + 3) = I (p + 3)) : RepP J p sz lf wl wr := by
  unfold RepP; rw [e1, e2, e3]; exact h
theorem RepP.let {I : Nat → Nat → Int} {p sz lf : Nat} {wl wr : List Int} (h : RepP I p sz lf wl wr) : tmLet (I (p + 1)) lf 0 0 = letW wl := by
  obtain ⟨a1, a2, a3, a4, a5, a6, a7, a8, a9, a10⟩ := h
  have := letW_pf a1 a2 (i := lf - 1) (by omega) (by omega)
  rw [a5, a6, show lf - 1 + 1 - lf = 0 by omega] at this
  exact this
theorem RepP.cntL {I : Nat → Nat → Int} {p sz lf : Nat} {wl wr : List Int} (h : RepP I p sz lf wl wr) : tmCnt (fun i => I (p + 1) i < 7) lf 0 = wl.countP (fun s => decide (s < 7)) := by
  obtain ⟨a1, a2, a3, a4, a5, a6, a7, a8, a9, a10⟩ := h
  have := pf_cnt a1 a2 (fun s => decide (s < 7)) (lf - 1) (by omega) (by omega)
  rw [a5, a6, show lf - 1 + 1 - lf = 0 by omega] at this
  rw [← this]
  exact tmCnt_congr _ _ (fun y _ _ => by simp)
theorem RepP.cntR {I : Nat → Nat → Int} {p sz lf : Nat} {wl wr : List Int} (h : RepP I p sz lf wl wr) : tmCnt (fun i => I (p + 1) i < 7) (sz - lf) lf = wr.countP (fun s => decide (s < 7)) := by
  obtain ⟨a1, a2, a3, a4, a5, a6, a7, a8, a9, a10⟩ := h
  have := pf_cnt a3 a4 (fun s => decide (s < 7)) (sz - 1) (by omega) (by omega)
  rw [a7, show sz - 1 + 1 - wr.length = lf by omega, show wr.length = sz - lf by omega] at this
  rw [← this]
  exact tmCnt_congr _ _ (fun y _ _ => by simp)
theorem RepP.w9 {I : Nat → Nat → Int} {p sz lf : Nat} {wl wr : List Int} (h : RepP I p sz lf wl wr) : (∀ s ∈ wl, 0 ≤ s ∧ s ≤ 9) ∧ ∀ s ∈ wr, 0 ≤ s ∧ s ≤ 9 := by
  obtain ⟨a1, a2, a3, a4, a5, a6, a7, a8, a9, a10⟩ := h
  constructor
  · intro s hs
    rw [← a5] at hs
    obtain ⟨j, b1, b2, b3⟩ := (pf_mem a1 a2 (i := lf - 1) (by omega) (by omega) s).mp hs
    have := a2 j (by omega) (by omega)
    rw [← b3]; exact this.2.2.2.2
  · intro s hs
    rw [← a7] at hs
    obtain ⟨j, b1, b2, b3⟩ := (pf_mem a3 a4 (i := sz - 1) (by omega) (by omega) s).mp hs
    rw [a7] at b1
    have := a4 j (by omega) (by omega)
    rw [← b3]; exact this.2.2.2.2
section S68
variable {S : tmS} {I : Nat → Nat → Int} {p sz lf : Nat} {wl wr : List Int}
theorem rep_tv (hw : RuleW S I p sz lf) (h : RepP I p sz lf wl wr) (pl ch : Nat → Int) : evW pl ch wl = if tv pl (I (p + 1)) (I (p + 2)) (I (p + 3)) ch ((lf - 1 : Nat) : Int) < 0 then none else some [tv pl (I (p + 1)) (I (p + 2)) (I (p + 3)) ch ((lf - 1 : Nat) : Int)] := by
  obtain ⟨q1, q2, q3, q4, q5, q6, q7, q8, q9, q10, q11⟩ := hw
  obtain ⟨a1, a2, a3, a4, a5, a6, a7, a8, a9, a10⟩ := h
  have := evW_node (pl := pl) (ch := ch) a1 a2 (fun i _ hi => tv_eq q8 (by omega)) (lf - 1) (by omega) (by omega) []
  rw [a5, List.append_nil] at this
  rw [this]
  rfl
theorem tv_ge {m : Nat} {pl sg on ot ch : Nat → Int} (hw : WFN m sg on ot) (hpl : ∀ K, K < 2604 → -1 ≤ pl K) (hch : ∀ l, l < 3 → -1 ≤ ch l) {i : Nat} (hi : i < m) : -1 ≤ tv pl sg on ot ch i := by
  rw [tv_eq hw hi]
  have w := hw i hi
  split
  · exact hch _ (by omega)
  · unfold plK
    split
    · omega
    · have := tmKey_lt (sg i) (tv pl sg on ot ch (on i)) (tv pl sg on ot ch (ot i))
      exact hpl _ (by omega)
/-- LEFT stands where its root does -/
theorem SA_root (hw : RuleW S I p sz lf) {pl ch : Nat → Int} : SA lf pl (I (p + 1)) (I (p + 2)) (I (p + 3)) ch = true ↔ tv pl (I (p + 1)) (I (p + 2)) (I (p + 3)) ch ((lf - 1 : Nat) : Int) ≠ -1 := by
  obtain ⟨q1, q2, q3, q4, q5, q6, q7, q8, q9, q10, q11⟩ := hw
  rw [SA_iff]
  constructor
  · intro h; exact h (lf - 1) (by omega)
  · intro h
    have : ∀ d j : Nat, j + 1 + d = lf → tv pl (I (p + 1)) (I (p + 2)) (I (p + 3)) ch (j : Int) ≠ -1 := by
      intro d
      induction d using Nat.strongRecOn with
      | ind d ih =>
        intro j hj
        by_cases d0 : d = 0
        · have : j = lf - 1 := by omega
          rw [this]; exact h
        · obtain ⟨i, i1, i2⟩ := q11 j (by omega)
          have w := q8 i (by omega)
          have hii : i + 1 + (lf - 1 - i) = lf := by omega
          have := ih (lf - 1 - i) (by omega) i hii
          rw [tv_eq q8 (by omega : i < sz)] at this
          have h7 : ¬ 7 ≤ I (p + 1) i := fun z => by have := w.2.2.2.2.2.2.2.1 z; omega
          rw [if_neg h7] at this
          intro hz
          apply this
          rcases i2 with e | e
          · rw [e, hz, tmKey_p (by have := w.2.2.2.2.2.2.1; omega) (by decide), plK_neg (by decide)]
          · have h6 : I (p + 1) i = 6 := by
              by_cases c4 : I (p + 1) i < 4
              · have := w.2.2.2.2.2.2.1 c4; omega
              · by_cases c6 : I (p + 1) i < 6
                · have := w.2.2.2.2.2.2.2.2.2.1 ⟨by omega, c6⟩; omega
                · omega
            rw [e, hz, tmKey_q h6 (by decide), plK_neg (by decide)]
    intro i hi
    exact this (lf - 1 - i) i (by omega)
def FNDW (n : Nat) (ho pl : Nat → Int) (w : List Int) : List (Int × Int × Int) := (ENW n (letW w) ho (fun ch => (evW pl ch w).isSome) 3 (fun _ => 0)).take 200
def PlW (pl : Nat → Int) (w : List Int) (q : Int × Int × Int) : Int := ((evW pl (chT q) w).getD []).getD 0 (-1)
def GnW (ls pl : Nat → Int) (w : List Int) (q : Int × Int × Int) : Int := gen3 ls (PlW pl w q) (chT q) 3 0 (svOf ls 50 0 (PlW pl w q)) + 1
theorem TabOK.ge {n : Nat} {sg on ot h pl : Nat → Int} (hT : TabOK n sg on ot h pl) (hh : HO n h) : ∀ K, K < 2604 → -1 ≤ pl K := by
  intro K hK
  by_cases e : pl K = -1
  · omega
  · obtain ⟨j, j1, j2, j3⟩ := hT.2 K hK e
    have := hh j j1
    omega
theorem rep_FNDS {n : Nat} (ht : TInv I n) (hw : RuleW S I p sz lf) (h : RepP I p sz lf wl wr) : FNDS I p lf n = FNDW n (I 7) (I 134) wl := by
  obtain ⟨h1, h2, h3, h4, h5, h6⟩ := ht
  unfold FNDS FNDW ENr
  rw [EN_ENW, h.let]
  congr 1
  refine ENW_cg (fun _ _ => rfl) (fun ch hc => ?_) 3 _ (Nat.le_refl _) (fun l hl => by omega)
  have hw8 := hw.2.2.2.2.2.2.2.1
  have hl : lf - 1 < sz := by have := hw.2.2.2.2.2.1; omega
  rw [Bool.eq_iff_iff, SA_root hw, rep_tv hw h]
  have hch : ∀ l, l < 3 → -1 ≤ ch l := fun l hl => by
    have := hc l hl
    cases hb : (letW wl).testBit l with
    | true => have := this.1 hb; omega
    | false => have := this.2 hb; omega
  have := tv_ge (pl := I 134) hw8 (h5.ge h4) hch hl
  by_cases c : tv (I 134) (I (p + 1)) (I (p + 2)) (I (p + 3)) ch ((lf - 1 : Nat) : Int) < 0
  · rw [if_pos c]
    exact ⟨fun z => absurd (by omega) z, fun z => by simp at z⟩
  · rw [if_neg c]
    exact ⟨fun _ => rfl, fun _ => by omega⟩
theorem rep_Pl {n : Nat} (ht : TInv I n) (hw : RuleW S I p sz lf) (h : RepP I p sz lf wl wr) {q : Int × Int × Int} (hq : q ∈ FNDS I p lf n) : PlF I p lf q = PlW (I 134) wl q := by
  have hg := (FNDS_good ht hw hq).2.1
  unfold PlW
  rw [rep_tv hw h]
  unfold PlF fPl at hg ⊢
  rw [if_neg (by omega)]
  rfl
theorem rep_Gn {n : Nat} (ht : TInv I n) (hw : RuleW S I p sz lf) (h : RepP I p sz lf wl wr) {q : Int × Int × Int} (hq : q ∈ FNDS I p lf n) : GnF I p lf n q = GnW (lsOf I n) (I 134) wl q := by
  unfold GnW
  rw [← rep_Pl ht hw h hq]
  rfl
/-- the FINDINGS of a RULE, all told -/
def ENW6 (n : Nat) (ho pl ls : Nat → Int) (w : List Int) (r : Int) : List E6 := (FNDW n ho pl w).map (fun q => (r, q.1, q.2.1, q.2.2, PlW pl w q, GnW ls pl w q))
theorem rep_ENT {n r : Nat} {pr lfr : Nat → Nat} (ht : TInv I n) (hw : RuleW S I (pr r) sz (lfr r)) (h : RepP I (pr r) sz (lfr r) wl wr) : ENT I pr lfr n r = ENW6 n (I 7) (I 134) (lsOf I n) wl r := by
  unfold ENT ENW6
  rw [← rep_FNDS ht hw h]
  refine List.map_congr_left (fun q hq => ?_)
  unfold entOf
  rw [rep_Pl ht hw h hq, rep_Gn ht hw h hq]
/-- RIGHT comes by its word -/
theorem rep_bd (h : RepP I p sz lf wl wr) (hsz : sz ≤ 120) {lt : Nat → Int} {g : Int} (hlt : ∀ j, lf ≤ j → j < sz → 7 ≤ I (p + 1) j → 0 ≤ lt (I (p + 1) j - 7).toNat) (X : TS) (md : Nat → Int) : bW lt g wr [] X [] = (bdF (I (p + 1)) (I (p + 2)) (I (p + 3)) lt g (sz - lf) lf X md).map (fun q => (q.1, mdL q.2 (sz - lf) lf)) := by
  obtain ⟨a1, a2, a3, a4, a5, a6, a7, a8, a9, a10⟩ := h
  have := bW_node (lt := lt) (g := g) a3 a4 hsz (sz - 1) (by omega) (by omega) (fun j j1 j2 => hlt j j1 (by omega)) X md [] [] []
  rw [a7, List.append_nil, show sz - 1 + 1 - wr.length = lf by omega, show wr.length = sz - lf by omega] at this
  rw [this]
  cases bdF (I (p + 1)) (I (p + 2)) (I (p + 3)) lt g (sz - lf) lf X md with
  | none => rfl
  | some q => simp [wtW, bW]
end S68
