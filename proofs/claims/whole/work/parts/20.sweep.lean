/-! ===== 20: Standing.sweep, Standing.settle ===== -/
theorem tmKey_inj {s p q s' p' q' : Int} (h1 : 0 ≤ s ∧ s ≤ 6) (h2 : 4 ≤ s → 0 ≤ p ∧ p < 50) (h3 : s = 6 → 0 ≤ q ∧ q < 50) (g1 : 0 ≤ s' ∧ s' ≤ 6) (g2 : 4 ≤ s' → 0 ≤ p' ∧ p' < 50) (g3 : s' = 6 → 0 ≤ q' ∧ q' < 50) (e : tmKey s p q = tmKey s' p' q') : s = s' ∧ (4 ≤ s → p = p') ∧ (s = 6 → q = q') := by
  have v : ∀ s p q : Int, (0 ≤ s ∧ s ≤ 6) → (4 ≤ s → 0 ≤ p ∧ p < 50) → (s = 6 → 0 ≤ q ∧ q < 50) → (s < 4 ∧ tmKey s p q = s) ∨ (s = 4 ∧ tmKey s p q = 4 + p ∧ 0 ≤ p ∧ p < 50) ∨ (s = 5 ∧ tmKey s p q = 54 + p ∧ 0 ≤ p ∧ p < 50) ∨ (s = 6 ∧ tmKey s p q = 104 + p * 50 + q ∧ 0 ≤ p ∧ p < 50 ∧ 0 ≤ q ∧ q < 50) := by
    intro s p q a b c
    unfold tmKey
    rw [if_neg (by omega)]
    by_cases d : s < 4
    · rw [if_pos d]; omega
    · rw [if_neg d, if_neg (by omega)]
      by_cases d2 : s < 6
      · rw [if_pos d2]; omega
      · rw [if_neg d2, if_neg (by omega)]; omega
  have w1 := v s p q h1 h2 h3
  have w2 := v s' p' q' g1 g2 g3
  rw [e] at w1
  generalize tmKey s' p' q' = K at w1 w2
  omega
abbrev tKey (n : Nat) (sg on ot h : Nat → Int) (j : Nat) : Int := tmKey (sg j) (tmHome n h (on j)) (tmHome n h (ot j))
/-- the table tells just the CLASSES of SIGNS with PARTS in CLASSES -/
def TabOK (n : Nat) (sg on ot h pl : Nat → Int) : Prop := (∀ j, j < n → pl (tKey n sg on ot h j).toNat = h j) ∧ ∀ K, K < 2604 → pl K ≠ -1 → ∃ j, j < n ∧ (K : Int) = tKey n sg on ot h j ∧ pl K = h j
theorem tmHome_idem {n : Nat} {h : Nat → Int} (hh : HO n h) (x : Int) : tmHome n h (tmHome n h x) = tmHome n h x := by
  by_cases hx : 0 ≤ x ∧ x < n
  · have a := hh x.toNat (by omega)
    rw [tmHome_in hx, tmHome_in (by omega), a.2.2]
  · rw [tmHome_out hx, tmHome_out (by omega)]
/-- the parts of a TERM, as homes: in range -/
theorem part_ok {n : Nat} {sg on ot h : Nat → Int} (hw : WFT n sg on ot) (hh : HO n h) (hn : n ≤ 50) {t : Nat} (ht : t < n) : (0 ≤ sg t ∧ sg t ≤ 6) ∧ (4 ≤ sg t → 0 ≤ tmHome n h (on t) ∧ tmHome n h (on t) < 50) ∧ (sg t = 6 → 0 ≤ tmHome n h (ot t) ∧ tmHome n h (ot t) < 50) ∧ (sg t < 4 → tmHome n h (on t) = -1) ∧ (sg t < 6 → tmHome n h (ot t) = -1) ∧ 0 ≤ tKey n sg on ot h t := by
  obtain ⟨a1, a2, a3, a4, a5, a6, a7, a8, a9, a10⟩ := hw t ht
  have f1 : 4 ≤ sg t → 0 ≤ tmHome n h (on t) ∧ tmHome n h (on t) < 50 := fun z => by
    have := a8 z
    have b := hh (on t).toNat (by omega)
    rw [tmHome_in (by omega)]; omega
  have f2 : sg t = 6 → 0 ≤ tmHome n h (ot t) ∧ tmHome n h (ot t) < 50 := fun z => by
    have := a10 z
    have b := hh (ot t).toNat (by omega)
    rw [tmHome_in (by omega)]; omega
  refine ⟨⟨a1, a2⟩, f1, f2, fun z => tmHome_out (by have := a7 z; omega), fun z => tmHome_out (by have := a9 z; omega), ?_⟩
  unfold tKey tmKey
  split
  · omega
  · split
    · omega
    · split
      · omega
      · split
        · omega
        · split <;> omega
theorem TabOK.closed {n : Nat} {sg on ot h pl : Nat → Int} (hT : TabOK n sg on ot h pl) : HClosed n sg on ot h := by
  intro t u ht hu c
  rw [← hT.1 t ht, ← hT.1 u hu, tKey, tKey, c.1, c.2.1, c.2.2]
/-- an entry of the table while a sweep goes on: it was told by j -/
def TabJ (n : Nat) (sg on ot h pl : Nat → Int) (t : Nat) : Prop := ∀ K, K < 2604 → pl K ≠ -1 → ∃ j c : Nat, j < t ∧ c < n ∧ pl K = c ∧ h c = h j ∧ ∃ p q : Int, tmKey (sg j) p q = K ∧ (4 ≤ sg j → 0 ≤ p ∧ p < 50) ∧ (sg j = 6 → 0 ≤ q ∧ q < 50) ∧ tmHome n h p = tmHome n h (on j) ∧ tmHome n h q = tmHome n h (ot j)
def SwI (n : Nat) (I I' : Nat → Nat → Int) (t : Nat) (u : Int) : Prop :=
  (∀ a, a ≠ 7 → a ≠ 133 → a ≠ 134 → a ≠ 135 → I' a = I a) ∧ Just n (I 3) (I 4) (I 5) (I 7) (I' 7) ∧ (∃ us, us ≤ t ∧ PlOK I' us) ∧ TabJ n (I 3) (I 4) (I 5) (I' 7) (I' 134) t ∧
  ((u = 0 ∧ I' 7 = I 7 ∧ (∀ j, j < t → I' 134 (tKey n (I 3) (I 4) (I 5) (I 7) j).toNat = I 7 j) ∧ ∀ K, K < 2604 → I' 134 K ≠ -1 → ∃ j, j < t ∧ (K : Int) = tKey n (I 3) (I 4) (I 5) (I 7) j ∧ I' 134 K = I 7 j) ∨ (u = 1 ∧ nCls n (I' 7) < nCls n (I 7)))
theorem SwI.nc {n : Nat} {I I' : Nat → Nat → Int} {t : Nat} {u : Int} (h : SwI n I I' t u) : nCls n (I' 7) ≤ nCls n (I 7) := by
  obtain ⟨-, -, -, -, h⟩ := h
  rcases h with ⟨-, e, -⟩ | ⟨-, e⟩
  · rw [e]; exact Nat.le_refl _
  · omega
theorem TabJ.mono {n : Nat} {sg on ot h g pl : Nat → Int} {t t' : Nat} (hT : TabJ n sg on ot h pl t) (hh : HO n h) (hl : HLe n h g) (ht : t ≤ t') (htn : t ≤ n) : TabJ n sg on ot g pl t' := by
  intro K hK hne
  obtain ⟨j, c, j1, c1, e1, e2, p, q, e3, e4, e5, e6, e7⟩ := hT K hK hne
  exact ⟨j, c, by omega, c1, e1, hl c j c1 (by omega) e2, p, q, e3, e4, e5, tmHome_mono hh hl e6, tmHome_mono hh hl e7⟩
/-- the first of its key: it is told -/
theorem SwI.tell {n : Nat} {I I' : Nat → Nat → Int} {t : Nat} {u : Int} (h : SwI n I I' t u) (hw : WFT n (I 3) (I 4) (I 5)) (hn : n ≤ 50) (ht : t < n) {us : Nat} (hus : us ≤ t) (hpl : PlOK I' us) {key : Nat} (hkey : (key : Int) = tKey n (I 3) (I 4) (I 5) (I' 7) t) (hno : I' 134 key = -1) :
    SwI n I (va_up (va_up (va_up I' 134 (va_up (I' 134) key (I' 7 t))) 135 (va_up (I' 135) us key)) 133 (va_up (I' 133) 2 (us + 1 : Nat))) (t + 1) u := by
  obtain ⟨h1, h2, h3, h4, h5⟩ := h
  have hh := h2.1
  have hk : -1 ≤ tKey n (I 3) (I 4) (I 5) (I' 7) t ∧ tKey n (I 3) (I 4) (I 5) (I' 7) t < 2604 := tmKey_lt _ _ _
  have at_ := hh t ht
  obtain ⟨b1, b2, b3, b4, b5, b6⟩ := part_ok hw hh hn ht
  refine ⟨fun a a1 a2 a3 a4 => ?_, ?_, ⟨us + 1, by omega, ?_⟩, ?_, ?_⟩
  · simp (disch := assumption) only [vup_n]; exact h1 a a1 a2 a3 a4
  · simp (disch := decide) only [vup_n]; exact h2
  · obtain ⟨q1, q2, q3, q4⟩ := hpl
    refine ⟨by omega, by simp only [vup_s], fun i hi => ?_, fun K hK hne => ?_⟩
    · simp only [vup_if, Nat.reduceEqDiff, ↓reduceIte]
      split
      · omega
      · exact q3 i (by omega)
    · simp only [vup_if, Nat.reduceEqDiff, ↓reduceIte] at hne ⊢
      by_cases e : K = key
      · subst e; exact ⟨us, by omega, by simp⟩
      · rw [if_neg e] at hne
        obtain ⟨i, i1, i2⟩ := q4 K hK hne
        exact ⟨i, by omega, by rw [if_neg (by omega)]; exact i2⟩
  · intro K hK hne
    simp only [vup_if, Nat.reduceEqDiff, ↓reduceIte] at hne ⊢
    by_cases e : K = key
    · subst e
      refine ⟨t, (I' 7 t).toNat, by omega, by omega, by simp; omega, at_.2.2, tmHome n (I' 7) (I 4 t), tmHome n (I' 7) (I 5 t), hkey.symm, b2, b3, tmHome_idem hh _, tmHome_idem hh _⟩
    · rw [if_neg e] at hne
      obtain ⟨j, c, j1, c1, e1, e2⟩ := h4 K hK hne
      exact ⟨j, c, by omega, c1, by rw [if_neg e]; exact e1, e2⟩
  · rcases h5 with ⟨u0, e1, e2, e3⟩ | ⟨u1, e1⟩
    · left
      have ek : (key : Int) = tKey n (I 3) (I 4) (I 5) (I 7) t := by rw [hkey, e1]
      refine ⟨u0, by simp only [vup_if, Nat.reduceEqDiff, ↓reduceIte]; exact e1, fun j hj => ?_, fun K hK hne => ?_⟩
      · simp only [vup_if, Nat.reduceEqDiff, ↓reduceIte]
        by_cases e : (tKey n (I 3) (I 4) (I 5) (I 7) j).toNat = key
        · rw [if_pos e]
          by_cases c : j = t
          · subst c; rw [e1]
          · exfalso
            have e4 := e2 j (by omega)
            rw [e, hno] at e4
            have hhI : HO n (I 7) := by rw [← e1]; exact hh
            have := hhI j (by omega)
            omega
        · rw [if_neg e]
          refine e2 j ?_
          by_cases c : j = t
          · subst c; exfalso; omega
          · omega
      · simp only [vup_if, Nat.reduceEqDiff, ↓reduceIte] at hne ⊢
        by_cases e : K = key
        · subst e; exact ⟨t, by omega, ek, by simp [e1]⟩
        · rw [if_neg e] at hne
          obtain ⟨j, j1, j2, j3⟩ := e3 K hK hne
          exact ⟨j, by omega, j2, by rw [if_neg e]; exact j3⟩
    · right
      exact ⟨u1, by simp only [vup_if, Nat.reduceEqDiff, ↓reduceIte]; exact e1⟩
/-- who told the entry that t finds, and that t is to be ALIKE with him -/
theorem SwI.cong {n : Nat} {I I' : Nat → Nat → Int} {t : Nat} {u : Int} (h : SwI n I I' t u) (hw : WFT n (I 3) (I 4) (I 5)) (hn : n ≤ 50) (ht : t < n) {key : Nat} (hkey : (key : Int) = tKey n (I 3) (I 4) (I 5) (I' 7) t) (hyes : I' 134 key ≠ -1) : ∃ c : Nat, c < n ∧ I' 134 key = c ∧ ∀ g, HO n g → HLe n (I' 7) g → HClosed n (I 3) (I 4) (I 5) g → g c = g t := by
  obtain ⟨h1, h2, h3, h4, h5⟩ := h
  have hh := h2.1
  have hk : -1 ≤ tKey n (I 3) (I 4) (I 5) (I' 7) t ∧ tKey n (I 3) (I 4) (I 5) (I' 7) t < 2604 := tmKey_lt _ _ _
  obtain ⟨b1, b2, b3, b4, b5, b6⟩ := part_ok hw hh hn ht
  obtain ⟨j, c, j1, c1, e1, e2, p, q, e3, e4, e5, e6, e7⟩ := h4 key (by omega) hyes
  obtain ⟨d1, d2, d3, d4, d5, d6⟩ := part_ok hw hh hn (t := j) (by omega)
  refine ⟨c, c1, e1, fun g g1 g2 g3 => ?_⟩
  obtain ⟨k1, k2, k3⟩ := tmKey_inj d1 e4 e5 b1 b2 b3 (e3.trans hkey)
  have hc : Cong n (I 3) (I 4) (I 5) (I' 7) j t := by
    refine ⟨k1, ?_, ?_⟩
    · by_cases z : 4 ≤ I 3 j
      · rw [← e6, k2 z, tmHome_idem hh]
      · rw [d4 (by omega), b4 (by omega)]
    · by_cases z : I 3 j = 6
      · rw [← e7, k3 z, tmHome_idem hh]
      · rw [d5 (by omega), b5 (by omega)]
  rw [g2 c j c1 (by omega) e2]
  exact g3 j t (by omega) ht (hc.mono hh g2)
theorem tmJn_same {n : Nat} {h : Nat → Int} (a : Int) : tmJn n h a a = h := by
  funext j
  simp only [tmJn, Int.lt_irrefl, if_false]
  split
  · next z => exact z.2.symm
  · rfl
theorem SwI.same {n : Nat} {I I' : Nat → Nat → Int} {t : Nat} {u : Int} (h : SwI n I I' t u) (hw : WFT n (I 3) (I 4) (I 5)) (hn : n ≤ 50) (ht : t < n) {key c : Nat} (hkey : (key : Int) = tKey n (I 3) (I 4) (I 5) (I' 7) t) (hyes : I' 134 key ≠ -1) (hc : I' 134 key = c) (e : I' 7 c = I' 7 t) : SwI n I I' (t + 1) u := by
  obtain ⟨h1, h2, ⟨us, h3, h3'⟩, h4, h5⟩ := h
  have hk : -1 ≤ tKey n (I 3) (I 4) (I 5) (I' 7) t ∧ tKey n (I 3) (I 4) (I 5) (I' 7) t < 2604 := tmKey_lt _ _ _
  refine ⟨h1, h2, ⟨us, by omega, h3'⟩, h4.mono h2.1 HLe.rfl (by omega) (by omega), ?_⟩
  rcases h5 with ⟨u0, e1, e2, e3⟩ | h5
  · left
    have ek : (key : Int) = tKey n (I 3) (I 4) (I 5) (I 7) t := by rw [hkey, e1]
    refine ⟨u0, e1, fun j hj => ?_, fun K hK hne => ?_⟩
    · by_cases z : j = t
      · subst z
        rw [← ek, Int.toNat_natCast]
        obtain ⟨j', a, b, d⟩ := e3 key (by omega) hyes
        have hhI : HO n (I 7) := by rw [← e1]; exact h2.1
        have := hhI j' (by omega)
        rw [d]
        rw [hc] at d
        rw [e1] at e
        have e5 : I 7 c = I 7 j' := by
          have : c = (I 7 j').toNat := by omega
          rw [this]; omega
        omega
      · exact e2 j (by omega)
    · obtain ⟨j, a, b⟩ := e3 K hK hne
      exact ⟨j, by omega, b⟩
  · exact Or.inr h5
theorem SwI.join {n : Nat} {I I' : Nat → Nat → Int} {t : Nat} {u : Int} (h : SwI n I I' t u) (ht : t < n) {c : Nat} (hc : c < n) (hg : ∀ g, HO n g → HLe n (I' 7) g → HClosed n (I 3) (I 4) (I 5) g → g c = g t) (e : I' 7 c ≠ I' 7 t) : SwI n I (va_up I' 7 (tmJn n (I' 7) (I' 7 c) (I' 7 t))) (t + 1) 1 := by
  have hnc := h.nc
  obtain ⟨h1, h2, ⟨us, h3, q1, q2, q3, q4⟩, h4, h5⟩ := h
  refine ⟨fun a a1 a2 a3 a4 => by rw [vup_n a1]; exact h1 a a1 a2 a3 a4, ?_, ⟨us, by omega, q1, ?_, ?_, ?_⟩, ?_, Or.inr ⟨rfl, ?_⟩⟩
  · rw [vup_s]; exact h2.join hc ht hg
  · rw [vup_n (by decide)]; exact q2
  · rw [vup_n (by decide)]; exact q3
  · rw [vup_n (by decide), vup_n (by decide)]; exact q4
  · simp only [vup_if, Nat.reduceEqDiff, ↓reduceIte]; exact h4.mono h2.1 tmJn_le (by omega) (by omega)
  · rw [vup_s]
    have := nCls_join h2.1 hc ht e
    omega
section S20
variable {S : tmS} {I : Nat → Nat → Int} {L : Nat → Nat → Int64}
/-- what a sweep leaves -/
abbrev SwPost (S : tmS) (I : Nat → Nat → Int) (L : Nat → Nat → Int64) (n : Nat) : Option tmV → tmH → Prop := fun r h' => ∃ I' u, r = some (tI u) ∧ h' = (S, I', L) ∧ SwI n I I' n u
set_option maxRecDepth 20000 in
set_option maxHeartbeats 1000000 in
theorem sweep_loop (hL : LX S) {n : Nat} (hn : I 2 0 = (n : Int)) (hn5 : n ≤ 50) (hw : WFT n (I 3) (I 4) (I 5)) : ∀ (k t : Nat) (u : Int) (x : Option tmV) (I' : Nat → Nat → Int), t + k = n → SwI n I I' t u →
    tmW kX5_sweep 4 0 0 8 [some (tR 133), some (tR 2), some (tI u), some (tI t), x] [] (S, I', L) (SwPost S I L n) := by
  intro k
  have o2 := oX2 hL
  have r2_1 := rX2_1 hL
  have r2_2 := rX2_2 hL
  have r2_3 := rX2_3 hL
  have r2_4 := rX2_4 hL
  have r2_5 := rX2_5 hL
  have o3 := oX3 hL
  have o4 := oX4 hL
  have o5 := oX5 hL
  have o7 := oX7 hL
  have o133 := oX133 hL
  have r133_0 := rX133_0 hL
  have r133_1 := rX133_1 hL
  have r133_3 := rX133_3 hL
  have r133_5 := rX133_5 hL
  have r133_6 := rX133_6 hL
  have r133_7 := rX133_7 hL
  have o134 := oX134 hL
  induction k with
  | zero =>
    intro t u x I' ht hi
    obtain rfl : t = n := by omega
    have f2 := hi.1 2 (by decide) (by decide) (by decide) (by decide)
    have hu : u = 0 ∨ u = 1 := by rcases hi.2.2.2.2 with ⟨e, -⟩ | ⟨e, -⟩; exact Or.inl e; exact Or.inr e
    refine wt_ir (fun hI => ?_)
    refine wa_iload_n dX5_sweep_8 rfl ?_
    refine wa_aload_n dX5_sweep_9 rfl ?_
    refine wt_getI dX5_sweep_10 FX5_52 (by assumption) ?_
    try simp only [f2, hn]
    refine wa_icmp_ge 104 dX5_sweep_13 (by decide) (by exact ⟨by omega, by omega⟩) (by exact ⟨by omega, by omega⟩) (fun c_13 => ?_) (fun c_13 => ?_)
    · refine wa_iload_n dX5_sweep_104 rfl ?_
      refine wa_zreturn dX5_sweep_105 rfl hu ?_
      exact ⟨I', u, rfl, rfl, hi⟩
    · omega
  | succ k ih =>
    intro t u x I' ht hi
    have f2 := hi.1 2 (by decide) (by decide) (by decide) (by decide)
    have f3 := hi.1 3 (by decide) (by decide) (by decide) (by decide)
    have f4 := hi.1 4 (by decide) (by decide) (by decide) (by decide)
    have f5 := hi.1 5 (by decide) (by decide) (by decide) (by decide)
    have hn' : I' 2 0 = (n : Int) := by rw [f2]; exact hn
    have hh := hi.2.1.1
    have hu : u = 0 ∨ u = 1 := by rcases hi.2.2.2.2 with ⟨e, -⟩ | ⟨e, -⟩; exact Or.inl e; exact Or.inr e
    obtain ⟨us, hus, hpl⟩ := hi.2.2.1
    obtain ⟨b1, b2, b3, b4, b5, b6⟩ := part_ok hw hh hn5 (t := t) (by omega)
    have hk : -1 ≤ tKey n (I 3) (I 4) (I 5) (I' 7) t ∧ tKey n (I 3) (I 4) (I 5) (I' 7) t < 2604 := tmKey_lt _ _ _
    obtain ⟨key, hkey⟩ : ∃ key : Nat, (key : Int) = tKey n (I 3) (I 4) (I 5) (I' 7) t := ⟨(tKey n (I 3) (I 4) (I 5) (I' 7) t).toNat, by omega⟩
    have at_ := hh t (by omega)
    refine wt_ir (fun hI => ?_)
    have hr : ∀ z, inR (tmHome n (I' 7) z) := by intro z; unfold tmHome; split; exact hI _ _; exact ⟨by omega, by omega⟩
    refine wa_iload_n dX5_sweep_8 rfl ?_
    refine wa_aload_n dX5_sweep_9 rfl ?_
    refine wt_getI dX5_sweep_10 FX5_52 (by assumption) ?_
    try simp only [f2, f3, f4, f5, hn]
    refine wa_icmp_ge 104 dX5_sweep_13 (by decide) (by first | exact hI _ _ | exact ⟨by omega, by omega⟩) (by first | exact hI _ _ | exact ⟨by omega, by omega⟩) (fun c_13 => ?_) (fun c_13 => ?_)
    · omega
    · refine wa_aload_n dX5_sweep_16 rfl ?_
      refine wt_getR dX5_sweep_17 FX5_57 (by assumption) (by assumption) ?_
      refine wa_iload_n dX5_sweep_20 rfl ?_
      refine wt_iald _ dX5_sweep_21 (by assumption) rfl (by omega) ?_
      try simp only [f2, f3, f4, f5, hn]
      refine wa_aload_n dX5_sweep_22 rfl ?_
      refine wa_aload_n dX5_sweep_23 rfl ?_
      refine wt_getR dX5_sweep_24 FX5_60 (by assumption) (by assumption) ?_
      refine wa_iload_n dX5_sweep_27 rfl ?_
      refine wt_iald _ dX5_sweep_28 (by assumption) rfl (by omega) ?_
      try simp only [f2, f3, f4, f5, hn]
      refine wa_callVf (ci := 8) dX5_sweep_29 KX8_homeOf LX5_63 ⟨_, _, rfl, by decide⟩ o2 (c_homeOf hL hn' hn5 (I 4 t) (by rw [← f4]; exact hI _ _)) (by decide) rfl rfl (Nat.le_of_ble_eq_true rfl) rfl rfl ?_
      refine wa_aload_n dX5_sweep_32 rfl ?_
      refine wa_aload_n dX5_sweep_33 rfl ?_
      refine wt_getR dX5_sweep_34 FX5_67 (by assumption) (by assumption) ?_
      refine wa_iload_n dX5_sweep_37 rfl ?_
      refine wt_iald _ dX5_sweep_38 (by assumption) rfl (by omega) ?_
      try simp only [f2, f3, f4, f5, hn]
      refine wa_callVf (ci := 8) dX5_sweep_39 KX8_homeOf LX5_63 ⟨_, _, rfl, by decide⟩ o2 (c_homeOf hL hn' hn5 (I 5 t) (by rw [← f5]; exact hI _ _)) (by decide) rfl rfl (Nat.le_of_ble_eq_true rfl) rfl rfl ?_
      refine wa_callSf dX5_sweep_42 KX5_keyOf LX5_70 (c_keyOf (I 3 t) (tmHome n (I' 7) (I 4 t)) (tmHome n (I' 7) (I 5 t)) (by rw [← f3]; exact hI _ _) (hr _) (hr _)) (by decide) rfl rfl (Nat.le_of_ble_eq_true rfl) rfl rfl ?_
      rw [show tmKey (I 3 t) (tmHome n (I' 7) (I 4 t)) (tmHome n (I' 7) (I 5 t)) = (key : Int) from hkey.symm]
      refine wa_istore dX5_sweep_45 (by decide) ?_
      refine wa_iload dX5_sweep_47 rfl ?_
      refine wa_if_ge 55 dX5_sweep_49 (by decide) (by first | exact hI _ _ | exact ⟨by omega, by omega⟩) (fun c_49 => ?_) (fun c_49 => ?_)
      · refine wa_aload_n dX5_sweep_55 rfl ?_
        refine wt_getR dX5_sweep_56 FX5_11 (by assumption) (by assumption) ?_
        refine wa_iload dX5_sweep_59 rfl ?_
        refine wt_iald _ dX5_sweep_61 (by assumption) rfl (by omega) ?_
        try simp only [f2, f3, f4, f5, hn]
        refine wa_iconst dX5_sweep_62 ?_
        refine wa_icmp_ne 81 dX5_sweep_63 (by decide) (by first | exact hI _ _ | exact ⟨by omega, by omega⟩) (by first | exact hI _ _ | exact ⟨by omega, by omega⟩) (fun c_63 => ?_) (fun c_63 => ?_)
        · obtain ⟨c, c1, c2, c3⟩ := hi.cong hw hn5 (by omega) hkey c_63
          refine wa_aload_n dX5_sweep_81 rfl ?_
          refine wa_aload_n dX5_sweep_82 rfl ?_
          refine wt_getR dX5_sweep_83 FX5_11 (by assumption) (by assumption) ?_
          refine wa_iload dX5_sweep_86 rfl ?_
          refine wt_iald _ dX5_sweep_88 (by assumption) rfl (by omega) ?_
          try simp only [f2, f3, f4, f5, hn]
          refine wa_iload_n dX5_sweep_89 rfl ?_
          rw [c2]
          refine wa_callVf (ci := 8) dX5_sweep_90 KX8_unite LX5_81 ⟨_, _, rfl, by decide⟩ o2 (c_unite hL hn' hn5 (fun t ht => ⟨(hh t ht).1, (hh t ht).2.1⟩) c t c1 (by omega)) (by decide) rfl rfl (Nat.le_of_ble_eq_true rfl) rfl rfl ?_
          refine wa_if_eq 98 dX5_sweep_93 (by decide) (by split <;> exact ⟨by omega, by omega⟩) (fun c_93 => ?_) (fun c_93 => ?_)
          · have ceq : I' 7 c = I' 7 t := by by_cases z : I' 7 c = I' 7 t; exact z; rw [if_neg z] at c_93; omega
            rw [ceq, tmJn_same, vup_self]
            have nx := hi.same hw hn5 (by omega) hkey c_63 c2 ceq
            refine wa_iinc dX5_sweep_98 rfl (by decide) ?_
            refine wa_goto 8 dX5_sweep_101 (by decide) ?_
            exact ih (t + 1) _ _ _ (by omega) nx
          · have cne : I' 7 c ≠ I' 7 t := by intro z; rw [if_pos z] at c_93; omega
            have nx := hi.join (by omega) c1 c3 cne
            refine wa_iconst dX5_sweep_96 ?_
            refine wa_istore_n dX5_sweep_97 (by decide) ?_
            refine wa_iinc dX5_sweep_98 rfl (by decide) ?_
            refine wa_goto 8 dX5_sweep_101 (by decide) ?_
            exact ih (t + 1) _ _ _ (by omega) nx
        · refine wa_aload_n dX5_sweep_66 rfl ?_
          refine wa_iload dX5_sweep_67 rfl ?_
          refine wa_aload_n dX5_sweep_69 rfl ?_
          refine wt_getR dX5_sweep_70 FX5_74 (by assumption) (by assumption) ?_
          refine wa_iload_n dX5_sweep_73 rfl ?_
          refine wt_iald _ dX5_sweep_74 (by assumption) rfl (by omega) ?_
          try simp only [f2, f3, f4, f5, hn]
          refine wa_callVf (ci := 5) dX5_sweep_75 KX5_tellPlace LX5_77 ⟨_, _, rfl, by decide⟩ o133 (c_tellPlace hL (us := us) hpl.2.1 (by omega) key (by omega) (I' 7 t) (hI _ _)) (by decide) rfl rfl (Nat.le_of_ble_eq_true rfl) rfl rfl ?_
          have nx := hi.tell hw hn5 (by omega) hus hpl hkey c_63
          refine wa_goto 98 dX5_sweep_78 (by decide) ?_
          refine wa_iinc dX5_sweep_98 rfl (by decide) ?_
          refine wa_goto 8 dX5_sweep_101 (by decide) ?_
          exact ih (t + 1) _ _ _ (by omega) nx
      · omega
end S20
