/-! ===== 71: TERMS told, by nodes and by words (no machine) ===== -/
theorem tmLet_app (sg : Nat → Int) : ∀ k1 k2 i m, tmLet sg (k1 + k2) i m = tmLet sg k2 (i + k1) (tmLet sg k1 i m) := by
  intro k1
  induction k1 with
  | zero => intro k2 i m; simp [tmLet]
  | succ k ih =>
    intro k2 i m
    rw [show k + 1 + k2 = (k + k2) + 1 by omega]
    simp only [tmLet]
    rw [ih k2 (i + 1), show i + 1 + k = i + (k + 1) by omega]
theorem trm_one {sg on ot lt : Nat → Int} {lf : Nat} {w : List Int} (h1 : PW 0 lf on ot) (h2 : POs 0 lf sg on ot) (hp : pf sg on ot ((lf - 1 : Nat) : Int) = w) (hl : w.length = lf) (l1 : 1 ≤ lf) (l2 : lf ≤ 120) (hw : letW w = 0) (X : TS) (md : Nat → Int) :
    trmW X w none = (bdF sg on ot lt 0 lf 0 X md).map (fun q => endW q.1 (mdL q.2 lf 0) (q.2 (lf - 1)).toNat (q.2 (lf - 1)).toNat) := by
  have h7 : ∀ s ∈ w, s < 7 := letW_no (fun s hs => by
    rw [← hp] at hs
    obtain ⟨j, b1, b2, b3⟩ := (pf_mem h1 h2 (i := lf - 1) (by omega) (by omega) s).mp hs
    rw [← b3]; exact (h2 j (by omega) (by omega)).2.2.2.2.2) hw
  have n7 : ∀ j, 0 ≤ j → j ≤ lf - 1 → 7 ≤ sg j → 0 ≤ lt (sg j - 7).toNat := fun j _ j2 j7 => by
    have hm : sg j ∈ pf sg on ot ((lf - 1 : Nat) : Int) := (pf_mem h1 h2 (i := lf - 1) (by omega) (by omega) (sg j)).mpr ⟨j, by rw [hp]; omega, by omega, rfl⟩
    rw [hp] at hm
    have := h7 _ hm
    omega
  have := bW_node (lt := lt) (g := 0) h1 h2 l2 (lf - 1) (by omega) (by omega) n7 X md [] [] []
  rw [hp, List.append_nil, hl, show lf - 1 + 1 - lf = 0 by omega] at this
  unfold trmW
  rw [bW_lt (lt := fun _ => 0) (lt' := lt) w [] X [] h7, this]
  cases bdF sg on ot lt 0 lf 0 X md with
  | none => rfl
  | some q =>
    have e : lastI (mdL q.2 lf 0) = (q.2 (lf - 1)).toNat := by
      have := mdL_last q.2 (lf - 1) 0
      rw [show lf - 1 + 1 = lf by omega, Nat.zero_add] at this
      exact this
    simp [wtW, bW, e]
theorem trm_two {I : Nat → Nat → Int} {p sz lf : Nat} {w v : List Int} {lt : Nat → Int} (h : RepP I p sz lf w v) (hz : sz ≤ 120) (hw : letW w = 0) (hv : letW v = 0) (X : TS) (md : Nat → Int) :
    trmW X w (some v) = (bdF (I (p + 1)) (I (p + 2)) (I (p + 3)) lt 0 sz 0 X md).map (fun q => endW q.1 (mdL q.2 sz 0) (q.2 (lf - 1)).toNat (q.2 (sz - 1)).toNat) := by
  have h9 := h.w9
  obtain ⟨a1, a2, a3, a4, a5, a6, a7, a8, a9, a10⟩ := id h
  have w7 : ∀ s ∈ w, s < 7 := letW_no (fun s hs => (h9.1 s hs).2) hw
  have v7 : ∀ s ∈ v, s < 7 := letW_no (fun s hs => (h9.2 s hs).2) hv
  have n7 : ∀ j, 0 ≤ j → j ≤ lf - 1 → 7 ≤ I (p + 1) j → 0 ≤ lt (I (p + 1) j - 7).toNat := fun j _ j2 j7 => by
    have hm := (pf_mem a1 a2 (i := lf - 1) (by omega) (by omega) (I (p + 1) j)).mpr ⟨j, by rw [a5]; omega, by omega, rfl⟩
    rw [a5] at hm
    have := w7 _ hm
    omega
  have m7 : ∀ j, lf ≤ j → j < sz → 7 ≤ I (p + 1) j → 0 ≤ lt (I (p + 1) j - 7).toNat := fun j j1 j2 j7 => by
    have hm := (pf_mem a3 a4 (i := sz - 1) (by omega) (by omega) (I (p + 1) j)).mpr ⟨j, by rw [a7]; omega, by omega, rfl⟩
    rw [a7] at hm
    have := v7 _ hm
    omega
  have b1 := bW_node (lt := lt) (g := 0) a1 a2 (by omega) (lf - 1) (by omega) (by omega) n7 X md [] [] []
  rw [a5, List.append_nil, a6, show lf - 1 + 1 - lf = 0 by omega] at b1
  unfold trmW
  rw [bW_lt (lt := fun _ => 0) (lt' := lt) w [] X [] w7, b1]
  have es : sz = lf + (sz - lf) := by omega
  have eb : bdF (I (p + 1)) (I (p + 2)) (I (p + 3)) lt 0 sz 0 X md = (bdF (I (p + 1)) (I (p + 2)) (I (p + 3)) lt 0 lf 0 X md).bind (fun q => bdF (I (p + 1)) (I (p + 2)) (I (p + 3)) lt 0 (sz - lf) lf q.1 q.2) := by
    have := bdF_app (psg := I (p + 1)) (pon := I (p + 2)) (pot := I (p + 3)) (lt := lt) (g := 0) lf (sz - lf) 0 X md
    rw [← es, Nat.zero_add] at this
    exact this
  rw [eb]
  cases hb1 : bdF (I (p + 1)) (I (p + 2)) (I (p + 3)) lt 0 lf 0 X md with
  | none => rfl
  | some q =>
    obtain ⟨X1, md1⟩ := q
    have e1 : lastI (mdL md1 lf 0) = (md1 (lf - 1)).toNat := by
      have := mdL_last md1 (lf - 1) 0
      rw [show lf - 1 + 1 = lf by omega, Nat.zero_add] at this
      exact this
    simp only [Option.bind_some, wtW, bW, List.nil_append]
    rw [bW_lt (lt := fun _ => 0) (lt' := lt) v [] X1 [] v7, rep_bd h hz m7 X1 md1]
    cases hb2 : bdF (I (p + 1)) (I (p + 2)) (I (p + 3)) lt 0 (sz - lf) lf X1 md1 with
    | none => rfl
    | some o =>
      obtain ⟨X2, md2⟩ := o
      obtain ⟨n1, n2⟩ := bdF_md _ _ _ _ _ _ hb2 (fun j j1 j2 => m7 j j1 (by omega))
      have e2 : lastI (mdL md2 (sz - lf) lf) = (md2 (sz - 1)).toNat := by
        have := mdL_last md2 (sz - lf - 1) lf
        rw [show sz - lf - 1 + 1 = sz - lf by omega, show lf + (sz - lf - 1) = sz - 1 by omega] at this
        exact this
      have e3 : mdL md2 sz 0 = mdL md1 lf 0 ++ mdL md2 (sz - lf) lf := by
        have := mdL_app md2 lf (sz - lf) 0
        rw [← es, Nat.zero_add] at this
        rw [this, mdL_cg (md := md1) (md' := md2) lf 0 (fun j _ j2 => n1 j (by omega))]
      simp only [Option.map_some]
      rw [e3, e1, e2, n1 (lf - 1) (by omega)]
theorem endW_ok {X : TS} {ms : List Int} {t u : Nat} (h : TsOK X) (ht : t < X.1) (hu : u < X.1) : TsOK (endW X ms t u) := by
  obtain ⟨h1, h2, h3, h4⟩ := h
  refine ⟨h1, h2, tmJn_HO h3 ht hu, ?_⟩
  have : ∀ (ms : List Int) (g : Nat → Int), (∀ t, t < X.1 → 0 ≤ g t ∧ g t ≤ 9) → ∀ t, t < X.1 → 0 ≤ gzL ms g t ∧ gzL ms g t ≤ 9 := by
    intro ms
    induction ms with
    | nil => intro g hg; exact hg
    | cons a ms ih =>
      intro g hg
      refine ih _ (fun t ht => ?_)
      by_cases e : t = a.toNat
      · subst e; rw [vup_s]; omega
      · rw [vup_n e]; exact hg t ht
  exact this ms _ h4
theorem lastI_in {n : Nat} {ms : List Int} (h : MsOK n ms) (hne : ms ≠ []) : lastI ms < n ∧ ((lastI ms : Nat) : Int) ∈ ms := by
  have e := List.getLast?_eq_some_getLast hne
  have hm := List.getLast_mem hne
  have : ms.getLastD (-1) = ms.getLast hne := by rw [List.getLastD_eq_getLast?, e]; rfl
  unfold lastI
  rw [this]
  have hq := h _ hm
  refine ⟨by omega, ?_⟩
  rw [show (((ms.getLast hne).toNat : Nat) : Int) = ms.getLast hne by omega]
  exact hm
theorem trmW_ok {X Y : TS} {w : List Int} {v : Option (List Int)} (h : trmW X w v = some Y) (hX : TsOK X) (h9 : ∀ s ∈ w, 0 ≤ s ∧ s ≤ 9) (h7 : ∀ s ∈ w, s < 7) (hn : ∃ s ∈ w, s < 4 ∨ 7 ≤ s) (hv : ∀ x, v = some x → (∀ s ∈ x, 0 ≤ s ∧ s ≤ 9) ∧ (∀ s ∈ x, s < 7) ∧ ∃ s ∈ x, s < 4 ∨ 7 ≤ s) : TsOK Y ∧ X.1 ≤ Y.1 := by
  unfold trmW at h
  cases hb : bW (fun _ => 0) 0 w [] X [] with
  | none => rw [hb] at h; cases h
  | some q =>
    obtain ⟨X1, m1⟩ := q
    rw [hb] at h
    simp only [Option.bind_some] at h
    obtain ⟨a, b, c, d, e⟩ := bW_ok ⟨by decide, by decide⟩ w [] X [] X1 m1 hb h9 (fun s hs z => by have := h7 s hs; omega) hX (fun q hq => by cases hq) (fun q hq => by cases hq)
    have ne1 := bW_ne w [] X [] X1 m1 hb (Or.inr hn)
    have l1 := lastI_in d ne1
    cases v with
    | none =>
      simp only [Option.some.injEq] at h
      rw [← h]
      exact ⟨endW_ok a l1.1 l1.1, b.1⟩
    | some v =>
      obtain ⟨v9, v7, vn⟩ := hv v rfl
      dsimp only at h
      cases hb2 : bW (fun _ => 0) 0 v [] X1 [] with
      | none => rw [hb2] at h; cases h
      | some o =>
        obtain ⟨X2, m2⟩ := o
        rw [hb2] at h
        simp only [Option.map_some, Option.some.injEq] at h
        obtain ⟨a', b', c', d', e'⟩ := bW_ok ⟨by decide, by decide⟩ v [] X1 [] X2 m2 hb2 v9 (fun s hs z => by have := v7 s hs; omega) a (fun q hq => by cases hq) (fun q hq => by cases hq)
        have ne2 := bW_ne v [] X1 [] X2 m2 hb2 (Or.inr vn)
        have l2 := lastI_in d' ne2
        rw [← h]
        have bb := b'.1
        exact ⟨endW_ok a' (by have := l1.1; omega) l2.1, by have := b.1; show X.1 ≤ X2.1; omega⟩
