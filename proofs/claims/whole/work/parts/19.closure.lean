/-! ===== 19: CLASSES that keep congruence, without any machine ===== -/
def HO (n : Nat) (ho : Nat → Int) : Prop := ∀ t, t < n → 0 ≤ ho t ∧ ho t ≤ t ∧ ho (ho t).toNat = ho t
def WFT (n : Nat) (sg on ot : Nat → Int) : Prop := ∀ t, t < n → 0 ≤ sg t ∧ sg t ≤ 6 ∧ -1 ≤ on t ∧ on t < t ∧ -1 ≤ ot t ∧ ot t < t ∧ (sg t < 4 → on t = -1) ∧ (4 ≤ sg t → 0 ≤ on t) ∧ (sg t < 6 → ot t = -1) ∧ (sg t = 6 → 0 ≤ ot t)
def Cong (n : Nat) (sg on ot h : Nat → Int) (t u : Nat) : Prop := sg t = sg u ∧ tmHome n h (on t) = tmHome n h (on u) ∧ tmHome n h (ot t) = tmHome n h (ot u)
def HLe (n : Nat) (h g : Nat → Int) : Prop := ∀ t u, t < n → u < n → h t = h u → g t = g u
def HClosed (n : Nat) (sg on ot h : Nat → Int) : Prop := ∀ t u, t < n → u < n → Cong n sg on ot h t u → h t = h u
/-- h was come to from h0 by what every closed one has, too -/
def Just (n : Nat) (sg on ot h0 h : Nat → Int) : Prop := HO n h ∧ HLe n h0 h ∧ ∀ g, HO n g → HLe n h0 g → HClosed n sg on ot g → HLe n h g
def IsCl (n : Nat) (sg on ot h0 h : Nat → Int) : Prop := Just n sg on ot h0 h ∧ HClosed n sg on ot h
theorem HO.lt {n : Nat} {h : Nat → Int} (hh : HO n h) {t : Nat} (ht : t < n) : (h t).toNat < n ∧ ((h t).toNat : Int) = h t := by have := hh t ht; omega
theorem HLe.same {n : Nat} {h g : Nat → Int} (hh : HO n h) (hg : HO n g) (h1 : HLe n h g) (h2 : HLe n g h) : ∀ t, t < n → h t = g t := by
  intro t ht
  have a := hh t ht
  have b := hg t ht
  obtain ⟨a1, a2⟩ := hh.lt ht
  obtain ⟨b1, b2⟩ := hg.lt ht
  have e1 : g (h t).toNat = g t := h1 _ _ a1 ht a.2.2
  have e2 : h (g t).toNat = h t := h2 _ _ b1 ht b.2.2
  have c1 := hg _ a1
  have c2 := hh _ b1
  omega
theorem IsCl.uniq {n : Nat} {sg on ot h0 h g : Nat → Int} (h1 : IsCl n sg on ot h0 h) (h2 : IsCl n sg on ot h0 g) : ∀ t, t < n → h t = g t :=
  HLe.same h1.1.1 h2.1.1 (h1.1.2.2 g h2.1.1 h2.1.2.1 h2.2) (h2.1.2.2 h h1.1.1 h1.1.2.1 h1.2)
theorem tmHome_in {n : Nat} {h : Nat → Int} {x : Int} (hx : 0 ≤ x ∧ x < n) : tmHome n h x = h x.toNat := by rw [tmHome, if_pos hx]
theorem tmHome_out {n : Nat} {h : Nat → Int} {x : Int} (hx : ¬ (0 ≤ x ∧ x < n)) : tmHome n h x = -1 := by rw [tmHome, if_neg hx]
theorem tmHome_mono {n : Nat} {h g : Nat → Int} (hh : HO n h) (hl : HLe n h g) {x y : Int} (e : tmHome n h x = tmHome n h y) : tmHome n g x = tmHome n g y := by
  by_cases hx : 0 ≤ x ∧ x < n
  · have ax := hh x.toNat (by omega)
    by_cases hy : 0 ≤ y ∧ y < n
    · rw [tmHome_in hx, tmHome_in hy] at e ⊢
      exact hl _ _ (by omega) (by omega) e
    · rw [tmHome_in hx, tmHome_out hy] at e; omega
  · by_cases hy : 0 ≤ y ∧ y < n
    · have ay := hh y.toNat (by omega)
      rw [tmHome_out hx, tmHome_in hy] at e; omega
    · rw [tmHome_out hx, tmHome_out hy]
theorem Cong.mono {n : Nat} {sg on ot h g : Nat → Int} (hh : HO n h) (hl : HLe n h g) {t u : Nat} (c : Cong n sg on ot h t u) : Cong n sg on ot g t u := ⟨c.1, tmHome_mono hh hl c.2.1, tmHome_mono hh hl c.2.2⟩
theorem HLe.rfl {n : Nat} {h : Nat → Int} : HLe n h h := fun _ _ _ _ e => e
theorem HLe.trans {n : Nat} {h g k : Nat → Int} (a : HLe n h g) (b : HLe n g k) : HLe n h k := fun t u ht hu e => b t u ht hu (a t u ht hu e)
theorem Just.refl {n : Nat} {sg on ot h : Nat → Int} (hh : HO n h) : Just n sg on ot h h := ⟨hh, HLe.rfl, fun _ _ hl _ => hl⟩
-- the union
theorem tmJn_or (n : Nat) (h : Nat → Int) (a b : Int) : ∃ lo hi : Int, lo ≤ hi ∧ ((lo = a ∧ hi = b) ∨ (lo = b ∧ hi = a)) ∧ ∀ j, tmJn n h a b j = if j < n ∧ h j = hi then lo else h j := by
  by_cases c : a < b
  · exact ⟨a, b, by omega, Or.inl ⟨rfl, rfl⟩, fun j => by unfold tmJn; rw [if_pos c, if_neg (show ¬ b < a by omega)]⟩
  · by_cases c2 : b < a
    · exact ⟨b, a, by omega, Or.inr ⟨rfl, rfl⟩, fun j => by unfold tmJn; rw [if_neg c, if_pos c2]⟩
    · exact ⟨a, b, by omega, Or.inl ⟨rfl, rfl⟩, fun j => by unfold tmJn; rw [if_neg c, if_neg c2, show a = b by omega]⟩
theorem tmJn_iff {n : Nat} {h : Nat → Int} {a b : Int} {j k : Nat} (hj : j < n) (hk : k < n) : tmJn n h a b j = tmJn n h a b k ↔ h j = h k ∨ ((h j = a ∨ h j = b) ∧ (h k = a ∨ h k = b)) := by
  obtain ⟨lo, hi, h1, h2, h3⟩ := tmJn_or n h a b
  rw [h3, h3]
  by_cases e1 : h j = hi
  · rw [if_pos ⟨hj, e1⟩]
    by_cases e2 : h k = hi
    · rw [if_pos ⟨hk, e2⟩]; omega
    · rw [if_neg (fun z => e2 z.2)]; omega
  · rw [if_neg (fun z => e1 z.2)]
    by_cases e2 : h k = hi
    · rw [if_pos ⟨hk, e2⟩]; omega
    · rw [if_neg (fun z => e2 z.2)]; omega
theorem tmJn_HO {n : Nat} {h : Nat → Int} (hh : HO n h) {t u : Nat} (ht : t < n) (hu : u < n) : HO n (tmJn n h (h t) (h u)) := by
  obtain ⟨lo, hi, h1, h2, h3⟩ := tmJn_or n h (h t) (h u)
  have at_ := hh t ht
  have au := hh u hu
  have hlo : 0 ≤ lo ∧ h lo.toNat = lo ∧ lo.toNat < n := by
    rcases h2 with ⟨e, -⟩ | ⟨e, -⟩
    · rw [e]; exact ⟨at_.1, at_.2.2, by omega⟩
    · rw [e]; exact ⟨au.1, au.2.2, by omega⟩
  intro j hj
  have aj := hh j hj
  rw [h3 j]
  by_cases e1 : h j = hi
  · rw [if_pos ⟨hj, e1⟩]
    refine ⟨hlo.1, by omega, ?_⟩
    rw [h3, hlo.2.1]
    split
    · rfl
    · rfl
  · rw [if_neg (fun z => e1 z.2)]
    refine ⟨aj.1, aj.2.1, ?_⟩
    rw [h3, aj.2.2, if_neg (fun z => e1 z.2)]
theorem tmJn_le {n : Nat} {h : Nat → Int} {a b : Int} : HLe n h (tmJn n h a b) := fun t u ht hu e => (tmJn_iff ht hu).mpr (Or.inl e)
theorem tmJn_eq {n : Nat} {h : Nat → Int} {t u : Nat} (ht : t < n) (hu : u < n) : tmJn n h (h t) (h u) t = tmJn n h (h t) (h u) u := (tmJn_iff ht hu).mpr (Or.inr ⟨Or.inl rfl, Or.inr rfl⟩)
theorem tmJn_least {n : Nat} {h g : Nat → Int} (hl : HLe n h g) {t u : Nat} (ht : t < n) (hu : u < n) (e : g t = g u) : HLe n (tmJn n h (h t) (h u)) g := by
  intro j k hj hk ejk
  rcases (tmJn_iff hj hk).mp ejk with e1 | ⟨e1, e2⟩
  · exact hl j k hj hk e1
  · have f1 : g j = g t := by
      rcases e1 with e1 | e1
      · exact hl j t hj ht e1
      · rw [hl j u hj hu e1, e]
    have f2 : g k = g t := by
      rcases e2 with e2 | e2
      · exact hl k t hk ht e2
      · rw [hl k u hk hu e2, e]
    rw [f1, f2]
theorem Just.join {n : Nat} {sg on ot h0 h : Nat → Int} (J : Just n sg on ot h0 h) {t u : Nat} (ht : t < n) (hu : u < n) (hc : ∀ g, HO n g → HLe n h g → HClosed n sg on ot g → g t = g u) : Just n sg on ot h0 (tmJn n h (h t) (h u)) :=
  ⟨tmJn_HO J.1 ht hu, J.2.1.trans tmJn_le, fun g g1 g2 g3 => tmJn_least (J.2.2 g g1 g2 g3) ht hu (hc g g1 (J.2.2 g g1 g2 g3) g3)⟩
theorem Just.cong {n : Nat} {sg on ot h0 h : Nat → Int} (J : Just n sg on ot h0 h) {t u : Nat} (ht : t < n) (hu : u < n) (c : Cong n sg on ot h t u) : Just n sg on ot h0 (tmJn n h (h t) (h u)) :=
  J.join ht hu (fun _ _ g2 g3 => g3 t u ht hu (c.mono J.1 g2))
theorem Just.trans {n : Nat} {sg on ot h0 h g : Nat → Int} (a : Just n sg on ot h0 h) (b : Just n sg on ot h g) : Just n sg on ot h0 g :=
  ⟨b.1, a.2.1.trans b.2.1, fun k k1 k2 k3 => b.2.2 k k1 (a.2.2 k k1 k2 k3) k3⟩
-- how many CLASSES
theorem tmCnt_congr {P P' : Nat → Prop} [DecidablePred P] [DecidablePred P'] : ∀ k t, (∀ y, t ≤ y → y < t + k → (P y ↔ P' y)) → tmCnt P k t = tmCnt P' k t := by
  intro k
  induction k with
  | zero => intro t _; rfl
  | succ k ih =>
    intro t h
    have h0 := h t (by omega) (by omega)
    simp only [tmCnt]
    rw [ih (t + 1) (fun y a b => h y (by omega) (by omega))]
    by_cases c : P t
    · rw [if_pos c, if_pos (h0.mp c)]
    · rw [if_neg c, if_neg (fun z => c (h0.mpr z))]
theorem tmCnt_one {P P' : Nat → Prop} [DecidablePred P] [DecidablePred P'] {x : Nat} (hx : P x) (hx' : ¬ P' x) : ∀ k t, t ≤ x → x < t + k → (∀ y, t ≤ y → y < t + k → y ≠ x → (P y ↔ P' y)) → tmCnt P k t = tmCnt P' k t + 1 := by
  intro k
  induction k with
  | zero => intro t a b; omega
  | succ k ih =>
    intro t a b h
    simp only [tmCnt]
    by_cases c : t = x
    · subst c
      rw [if_pos hx, if_neg hx', tmCnt_congr (P := P) (P' := P') k (t + 1) (fun y a b => h y (by omega) (by omega) (by omega))]
      omega
    · have h0 := h t (by omega) (by omega) c
      rw [ih (t + 1) (by omega) (by omega) (fun y a b => h y (by omega) (by omega))]
      by_cases c2 : P t
      · rw [if_pos c2, if_pos (h0.mp c2)]; omega
      · rw [if_neg c2, if_neg (fun z => c2 (h0.mpr z))]; omega
abbrev nCls (n : Nat) (h : Nat → Int) : Nat := tmCnt (fun t => h t = t) n 0
theorem nCls_join {n : Nat} {h : Nat → Int} (hh : HO n h) {t u : Nat} (ht : t < n) (hu : u < n) (hne : h t ≠ h u) : nCls n h = nCls n (tmJn n h (h t) (h u)) + 1 := by
  obtain ⟨lo, hi, h1, h2, h3⟩ := tmJn_or n h (h t) (h u)
  have at_ := hh t ht
  have au := hh u hu
  have hhi : 0 ≤ hi ∧ h hi.toNat = hi ∧ hi.toNat < n := by
    rcases h2 with ⟨-, e⟩ | ⟨-, e⟩
    · rw [e]; exact ⟨au.1, au.2.2, by omega⟩
    · rw [e]; exact ⟨at_.1, at_.2.2, by omega⟩
  refine tmCnt_one (x := hi.toNat) (by rw [hhi.2.1]; omega) ?_ n 0 (by omega) (by omega) ?_
  · rw [h3, hhi.2.1, if_pos ⟨hhi.2.2, rfl⟩]; omega
  · intro y _ hy hyx
    rw [h3]
    have ay := hh y (by omega)
    by_cases c : h y = hi
    · rw [if_pos ⟨by omega, c⟩]
      constructor
      · intro e; omega
      · intro e; exfalso; omega
    · rw [if_neg (fun z => c z.2)]
theorem nCls_le (n : Nat) (h : Nat → Int) : nCls n h ≤ n := tmCnt_le _ _ _
theorem nCls_pos {n : Nat} {h : Nat → Int} (hh : HO n h) (hn : 0 < n) : 0 < nCls n h := by
  have h0 := hh 0 hn
  have e : h 0 = 0 := by omega
  unfold nCls
  obtain ⟨m, rfl⟩ : ∃ m, n = m + 1 := ⟨n - 1, by omega⟩
  simp only [tmCnt]
  rw [if_pos (by simpa using e)]
  omega
theorem nCls_congr {n : Nat} {h g : Nat → Int} (e : ∀ t, t < n → h t = g t) : nCls n h = nCls n g := tmCnt_congr n 0 (fun y _ hy => by rw [e y (by omega)])
