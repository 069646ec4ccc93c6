/-! ===== 76: closures are there; FINDINGS and ROUNDS of the pure state (no machine) ===== -/
theorem ex_cl {n : Nat} {sg on ot : Nat → Int} : ∀ (k : Nat) (h : Nat → Int), nCls n h ≤ k → HO n h → ∃ g, IsCl n sg on ot h g := by
  intro k
  induction k with
  | zero =>
    intro h hk hh
    by_cases hn : 0 < n
    · have := nCls_pos hh hn; omega
    · exact ⟨h, Just.refl hh, fun t u ht => by omega⟩
  | succ k ih =>
    intro h hk hh
    by_cases hc : HClosed n sg on ot h
    · exact ⟨h, Just.refl hh, hc⟩
    · have : ∃ t u, t < n ∧ u < n ∧ Cong n sg on ot h t u ∧ h t ≠ h u := by
        apply Classical.byContradiction
        intro hno
        apply hc
        intro t u ht hu c
        apply Classical.byContradiction
        intro hne
        exact hno ⟨t, u, ht, hu, c, hne⟩
      obtain ⟨t, u, ht, hu, c, hne⟩ := this
      have hj := nCls_join hh ht hu hne
      have J := (Just.refl (sg := sg) (on := on) (ot := ot) hh).cong ht hu c
      obtain ⟨g, hg⟩ := ih (tmJn n h (h t) (h u)) (by omega) (tmJn_HO hh ht hu)
      exact ⟨g, J.trans hg.1, hg.2⟩
theorem clH_ok {X : TS} (h : HO X.1 X.2.2.2.2.2) : IsCl X.1 X.2.1 X.2.2.1 X.2.2.2.1 X.2.2.2.2.2 (clH X) := by
  obtain ⟨g, hg⟩ := ex_cl (sg := X.2.1) (on := X.2.2.1) (ot := X.2.2.2.1) _ _ (Nat.le_refl _) h
  exact clH_is hg
/-- a state between two calls -/
def XOK (X : TS) : Prop := TsOK X ∧ HClosed X.1 X.2.1 X.2.2.1 X.2.2.2.1 X.2.2.2.2.2
theorem clX_ok {X : TS} (h : TsOK X) : XOK (clX X) := by
  obtain ⟨h1, h2, h3, h4⟩ := h
  have hc := clH_ok h3
  exact ⟨⟨h1, h2, hc.1.1, h4⟩, hc.2⟩
/-- of a closed state nothing follows -/
theorem clX_self {X : TS} (h : XOK X) : TsEq X (clX X) := by
  have := clX_eq (TsEq.refl X) (g := X.2.2.2.2.2) ⟨Just.refl h.1.2.2.1, h.2⟩
  exact this.1.symm
theorem clX_cg {X Y : TS} (h : TsEq X Y) (hY : HO Y.1 Y.2.2.2.2.2) : TsEq (clX X) (clX Y) := (clX_eq h (clH_ok hY)).1
/-- the table of a state -/
def plT (X : TS) (K : Nat) : Int := if tmScan (fun j => (K : Int) = tKey X.1 X.2.1 X.2.2.1 X.2.2.2.1 X.2.2.2.2.2 j) X.1 0 = -1 then -1 else X.2.2.2.2.2 (tmScan (fun j => (K : Int) = tKey X.1 X.2.1 X.2.2.1 X.2.2.2.1 X.2.2.2.2.2 j) X.1 0).toNat
theorem plT_tab {X : TS} {pl : Nat → Int} (h : TabOK X.1 X.2.1 X.2.2.1 X.2.2.2.1 X.2.2.2.2.2 pl) {K : Nat} (hK : K < 2604) : pl K = plT X K := by
  unfold plT
  rcases tmScan_spec (P := fun j => (K : Int) = tKey X.1 X.2.1 X.2.2.1 X.2.2.2.1 X.2.2.2.2.2 j) X.1 0 with ⟨e, hn⟩ | ⟨j, e, _, h2, h3, _⟩
  · rw [if_pos e]
    apply Classical.byContradiction
    intro hne
    obtain ⟨j, a, b, _⟩ := h.2 K hK hne
    exact hn j (by omega) (by omega) b
  · rw [if_neg (by rw [e]; omega), e]
    have := h.1 j (by omega)
    rw [← h3] at this
    simpa using this
theorem tKey_cg {X Y : TS} (h : TsEq X Y) {j : Nat} (hj : j < X.1) : tKey Y.1 Y.2.1 Y.2.2.1 Y.2.2.2.1 Y.2.2.2.2.2 j = tKey X.1 X.2.1 X.2.2.1 X.2.2.2.1 X.2.2.2.2.2 j := by
  obtain ⟨a, b, c, d, e⟩ := h.2 j hj
  unfold tKey
  rw [a, b, c, h.1, tmHome_cg (fun t ht => (h.2 t ht).2.2.2.2), tmHome_cg (fun t ht => (h.2 t ht).2.2.2.2)]
theorem plT_cg {X Y : TS} (h : TsEq X Y) : plT Y = plT X := by
  funext K
  unfold plT
  have e : tmScan (fun j => (K : Int) = tKey Y.1 Y.2.1 Y.2.2.1 Y.2.2.2.1 Y.2.2.2.2.2 j) Y.1 0 = tmScan (fun j => (K : Int) = tKey X.1 X.2.1 X.2.2.1 X.2.2.2.1 X.2.2.2.2.2 j) X.1 0 := by
    have h1 := h.1
    rw [h.1]
    refine tmScan_cg _ _ (fun j _ hj => ?_)
    have := tKey_cg h (j := j) (by omega)
    rw [h1] at this
    rw [this]
  rw [e]
  rcases tmScan_spec (P := fun j => (K : Int) = tKey X.1 X.2.1 X.2.2.1 X.2.2.2.1 X.2.2.2.2.2 j) X.1 0 with ⟨e1, _⟩ | ⟨j, e1, _, h2, _, _⟩
  · rw [if_pos e1, if_pos e1]
  · rw [e1, if_neg (by omega), if_neg (by omega)]
    exact (h.2 _ (by omega)).2.2.2.2
theorem gnRun_cg2 {ho ge ho' ge' : Nat → Int} : ∀ (k t : Nat) (c : Nat → Int), (∀ j, t ≤ j → j < t + k → ho' j = ho j ∧ ge' j = ge j) → gnRun ho' ge' k t c = gnRun ho ge k t c := by
  intro k
  induction k with
  | zero => intro t c _; rfl
  | succ k ih =>
    intro t c h
    simp only [gnRun]
    rw [(h t (by omega) (by omega)).1, (h t (by omega) (by omega)).2]
    exact ih (t + 1) _ (fun j a b => h j (by omega) (by omega))
def lsX (X : TS) : Nat → Int := gnRun X.2.2.2.2.2 X.2.2.2.2.1 X.1 0 (fun _ => 9)
theorem lsX_cg {X Y : TS} (h : TsEq X Y) : lsX Y = lsX X := by
  unfold lsX
  rw [h.1]
  exact gnRun_cg2 _ _ _ (fun j _ hj => ⟨(h.2 j (by omega)).2.2.2.2, (h.2 j (by omega)).2.2.2.1⟩)
theorem evW_cg {pl pl' ch : Nat → Int} (h : ∀ K, K < 2604 → pl' K = pl K) : ∀ w : List Int, evW pl' ch w = evW pl ch w := by
  intro w
  have hk : ∀ s a b : Int, plK pl' (tmKey s a b) = plK pl (tmKey s a b) := fun s a b => by
    have := tmKey_lt s a b
    unfold plK
    split
    · rfl
    · exact h _ (by omega)
  induction w with
  | nil => rfl
  | cons s w ih => simp only [evW, ih, hk]
/-- the FINDINGS of a word -/
def fnd6 (X : TS) (w : List Int) (r : Int) : List E6 := ENW6 X.1 X.2.2.2.2.2 (plT X) (lsX X) w r
theorem ENW6_cg {n : Nat} {ho ho' pl pl' ls : Nat → Int} {w : List Int} {r : Int} (hh : ∀ t, t < n → ho' t = ho t) (hp : ∀ K, K < 2604 → pl' K = pl K) : ENW6 n ho' pl' ls w r = ENW6 n ho pl ls w r := by
  have e : ∀ ch, evW pl' ch w = evW pl ch w := fun ch => evW_cg hp w
  unfold ENW6 FNDW
  have e1 : ENW n (letW w) ho' (fun ch => (evW pl' ch w).isSome) 3 (fun _ => 0) = ENW n (letW w) ho (fun ch => (evW pl ch w).isSome) 3 (fun _ => 0) := ENW_cg hh (fun ch _ => by rw [e]) 3 _ (Nat.le_refl _) (fun l hl => by omega)
  rw [e1]
  refine List.map_congr_left (fun q _ => ?_)
  have e2 : PlW pl' w q = PlW pl w q := by unfold PlW; rw [e]
  unfold GnW
  rw [e2]
theorem fnd6_cg {X Y : TS} (h : TsEq X Y) (w : List Int) (r : Int) : fnd6 Y w r = fnd6 X w r := by
  unfold fnd6
  rw [plT_cg h, lsX_cg h, h.1]
  exact ENW6_cg (fun t ht => (h.2 t ht).2.2.2.2) (fun _ _ => rfl)
abbrev rlL (rl : RuL) (r : Nat) : List Int := (rl.getD r ([], [])).1
abbrev rlR (rl : RuL) (r : Nat) : List Int := (rl.getD r ([], [])).2
/-- what is to be done, by RULES; how many are too late -/
def tdsX (X : TS) (rl : RuL) (lim : Int) : List E6 := (List.range rl.length).flatMap fun (r : Nat) => (fnd6 X (rlL rl r) (r : Int)).filter (notLate lim)
def lateX (X : TS) (rl : RuL) (lim : Int) : Nat → Nat
  | 0 => 0
  | r + 1 => lateX X rl lim r + ((fnd6 X (rlL rl r) (r : Int)).filter (fun e => !notLate lim e)).length
def jnX (X : TS) (t u : Nat) : TS := (X.1, X.2.1, X.2.2.1, X.2.2.2.1, X.2.2.2.2.1, tmJn X.1 X.2.2.2.2.2 (X.2.2.2.2.2 t) (X.2.2.2.2.2 u))
theorem jnX_ok {X : TS} (h : TsOK X) {t u : Nat} (ht : t < X.1) (hu : u < X.1) : TsOK (jnX X t u) := ⟨h.1, h.2.1, tmJn_HO h.2.2.1 ht hu, h.2.2.2⟩
theorem tmJn_cg {n : Nat} {h h' : Nat → Int} (e : ∀ t, t < n → h' t = h t) (a b : Int) : ∀ t, t < n → tmJn n h' a b t = tmJn n h a b t := fun t ht => by unfold tmJn; rw [e t ht]
theorem jnX_cg {X Y : TS} (h : TsEq X Y) {t u : Nat} (ht : t < X.1) (hu : u < X.1) : TsEq (jnX X t u) (jnX Y t u) := ⟨h.1, fun j hj => by
  obtain ⟨a, b, c, d, e⟩ := h.2 j hj
  refine ⟨a, b, c, d, ?_⟩
  show tmJn Y.1 Y.2.2.2.2.2 (Y.2.2.2.2.2 t) (Y.2.2.2.2.2 u) j = _
  rw [h.1, (h.2 t ht).2.2.2.2, (h.2 u hu).2.2.2.2]
  exact tmJn_cg (fun k hk => (h.2 k hk).2.2.2.2) _ _ j hj⟩
/-- a FINDING is done -/
noncomputable def doX (rl : RuL) (e : E6) (X : TS) (C : Nat → Int) : TS × (Nat → Int) × Int :=
  match bW (ltOf X.1 X.2.2.2.2.2 e.2.1 e.2.2.1 e.2.2.2.1) e.2.2.2.2.2 (rlR rl e.1.toNat) [] X [] with
  | none => (X, va_up C 2 (C 2 + 1), 0)
  | some q => (clX (jnX q.1 (lastI q.2) e.2.2.2.2.1.toNat),
    (fun j => if j = 0 then C 0 + 1 else if j = 3 then C 3 + ((q.1.1 : Int) - X.1) else if j = 4 then C 4 + (if nCls X.1 (clX (jnX q.1 (lastI q.2) e.2.2.2.2.1.toNat)).2.2.2.2.2 < nCls X.1 X.2.2.2.2.2 then 1 else 0) else C j),
    (if X.1 < q.1.1 ∨ nCls X.1 (clX (jnX q.1 (lastI q.2) e.2.2.2.2.1.toNat)).2.2.2.2.2 < nCls X.1 X.2.2.2.2.2 then 1 else 0))
noncomputable def runX (rl : RuL) : List E6 → TS → (Nat → Int) → Int → TS × (Nat → Int) × Int
  | [], X, C, u => (X, C, u)
  | e :: es, X, C, u => runX rl es (doX rl e X C).1 (doX rl e X C).2.1 (u + (doX rl e X C).2.2)
