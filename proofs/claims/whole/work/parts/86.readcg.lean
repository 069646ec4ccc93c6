/-! ===== 86: reading hangs on the bytes told, and on TERMS below their number (no machine) ===== -/
section S86
variable {b b' : Nat → Int} {n : Nat}
theorem byt_cg (h : ∀ i, i < n → b' i = b i) (p : Nat) : byt b' n p = byt b n p := by unfold byt; split; (exact h p (by assumption)); rfl
theorem skN_cg (h : ∀ i, i < n → b' i = b i) : ∀ k p, p + k ≤ n → skN b' k p = skN b k p := by
  intro k
  induction k with
  | zero => intro p _; rfl
  | succ k ih => intro p hp; simp only [skN]; rw [h p (by omega), ih (p + 1) (by omega)]
theorem skp_cg (h : ∀ i, i < n → b' i = b i) (p : Nat) : skp b' n p = skp b n p := by
  unfold skp
  by_cases z : p ≤ n
  · exact skN_cg h _ p (by omega)
  · rw [show n - p = 0 by omega]; rfl
theorem clW_cg (h : ∀ i, i < n → b' i = b i) : clW b' n = clW b n := by
  have hb : byt b' n = byt b n := funext (byt_cg h)
  have hk : skp b' n = skp b n := funext (skp_cg h)
  funext nd
  induction nd with
  | nil => rfl
  | cons m r ih =>
    funext p
    simp only [clW]
    unfold tkP tkB
    rw [hb, hk, ih]
theorem sdW_cg (h : ∀ i, i < n → b' i = b i) (may : Nat) : ∀ k : Nat, sdW b' n may k = sdW b n may k := by
  have hb : byt b' n = byt b n := funext (byt_cg h)
  have hk : skp b' n = skp b n := funext (skp_cg h)
  have hc := clW_cg h
  intro k
  induction k with
  | zero => rfl
  | succ k ih =>
    funext nd w p
    simp only [sdW]
    unfold tkP tkB
    rw [hb, hk, hc, ih]
theorem sentW_cgb (h : ∀ i, i < n → b' i = b i) : sentW b' n = sentW b n := by
  have hb : byt b' n = byt b n := funext (byt_cg h)
  have hk : skp b' n = skp b n := funext (skp_cg h)
  have hs : ∀ may, sdW b' n may 121 = sdW b n may 121 := fun may => sdW_cg h may 121
  funext p X rl
  unfold sentW sideW tkP tkB
  rw [hb, hk, hs 7, hs (letW (sdW b n 7 121 [] [] p).2.2)]
theorem readW_cgb (h : ∀ i, i < n → b' i = b i) : ∀ f : Nat, readW b' n f = readW b n f := by
  have hb : byt b' n = byt b n := funext (byt_cg h)
  have hk : skp b' n = skp b n := funext (skp_cg h)
  have hs := sentW_cgb h
  intro f
  induction f with
  | zero => rfl
  | succ f ih =>
    funext k p X rl
    simp only [readW]
    rw [hb, hk, hs, ih]
end S86
theorem gzL_cg {n : Nat} : ∀ (ms : List Int) (g g' : Nat → Int), (∀ t, t < n → g' t = g t) → ∀ t, t < n → gzL ms g' t = gzL ms g t := by
  intro ms
  induction ms with
  | nil => intro g g' h; exact h
  | cons a ms ih =>
    intro g g' h
    refine ih _ _ (fun t ht => ?_)
    by_cases e : t = a.toNat
    · subst e; rw [vup_s, vup_s]
    · rw [vup_n e, vup_n e]; exact h t ht
theorem endW_cg {X Y : TS} (h : TsEq X Y) (ms : List Int) {t u : Nat} (ht : t < X.1) (hu : u < X.1) : TsEq (endW X ms t u) (endW Y ms t u) := by
  have hj := jnX_cg h ht hu
  refine ⟨h.1, fun j hj' => ?_⟩
  obtain ⟨a, b, c, d, _⟩ := h.2 j hj'
  exact ⟨a, b, c, gzL_cg ms _ _ (fun k hk => (h.2 k hk).2.2.2.1) j hj', (hj.2 j hj').2.2.2.2⟩
/-- TERMS told, for the same TERMS -/
theorem trmW_e5 {X Y : TS} (hX : TsOK X) (hY : TsOK Y) (h : TsEq X Y) {w : List Int} {v : Option (List Int)} (h9 : ∀ s ∈ w, 0 ≤ s ∧ s ≤ 9) (h7 : ∀ s ∈ w, s < 7) (hn : ∃ s ∈ w, s < 4 ∨ 7 ≤ s) (hv : ∀ x, v = some x → (∀ s ∈ x, 0 ≤ s ∧ s ≤ 9) ∧ (∀ s ∈ x, s < 7) ∧ ∃ s ∈ x, s < 4 ∨ 7 ≤ s) : (trmW X w v = none ∧ trmW Y w v = none) ∨ ∃ X' Y', trmW X w v = some X' ∧ trmW Y w v = some Y' ∧ TsEq X' Y' := by
  have g0 : (0 : Int) ≤ 0 ∧ (0 : Int) ≤ 9 := ⟨by decide, by decide⟩
  unfold trmW
  rcases bW_e5 (lt := fun _ => 0) (lt' := fun _ => 0) g0 hX hY h h9 (fun s hs z => by have := h7 s hs; omega) with ⟨a, b⟩ | ⟨X1, Y1, m1, a, b, e⟩
  · rw [a, b]; exact Or.inl ⟨rfl, rfl⟩
  · rw [a, b]
    obtain ⟨o1, o2, o3, o4, _⟩ := bW_ok g0 w [] X [] X1 m1 a h9 (fun s hs z => by have := h7 s hs; omega) hX (fun q hq => by cases hq) (fun q hq => by cases hq)
    have l1 := lastI_in o4 (bW_ne w [] X [] X1 m1 a (Or.inr hn))
    cases v with
    | none => exact Or.inr ⟨_, _, rfl, rfl, endW_cg e m1 l1.1 l1.1⟩
    | some v =>
      obtain ⟨v9, v7, vn⟩ := hv v rfl
      rcases bW_e5 (lt := fun _ => 0) (lt' := fun _ => 0) g0 o1 (o1.cg e) e v9 (fun s hs z => by have := v7 s hs; omega) with ⟨a', b'⟩ | ⟨X2, Y2, m2, a', b', e'⟩
      · left
        simp only [Option.bind_some]
        rw [a', b']; exact ⟨rfl, rfl⟩
      · right
        obtain ⟨p1, p2, p3, p4, _⟩ := bW_ok g0 v [] X1 [] X2 m2 a' v9 (fun s hs z => by have := v7 s hs; omega) o1 (fun q hq => by cases hq) (fun q hq => by cases hq)
        have l2 := lastI_in p4 (bW_ne v [] X1 [] X2 m2 a' (Or.inr vn))
        simp only [Option.bind_some]
        rw [a', b']
        exact ⟨_, _, rfl, rfl, endW_cg e' _ (by have := l1.1; have := p2.1; omega) l2.1⟩
theorem sentW_e5 {b : Nat → Int} {n p : Nat} {X Y : TS} {rl : RuL} (hp : p ≤ n) (hX : TsOK X) (hY : TsOK Y) (h : TsEq X Y) : (sentW b n p Y rl).1 = (sentW b n p X rl).1 ∧ (sentW b n p Y rl).2.1 = (sentW b n p X rl).2.1 ∧ TsEq (sentW b n p X rl).2.2.1 (sentW b n p Y rl).2.2.1 ∧ (sentW b n p Y rl).2.2.2 = (sentW b n p X rl).2.2.2 := by
  obtain ⟨a1, a2, a3, a4, a5, a6, a7⟩ := sdW_b (b := b) (n := n) (may := 7) 121 [] [] p hp
  have a4 := a4 (fun s hs => by cases hs)
  have hs := skp_b (b := b) a2
  have triv : ∀ (q1 : Bool) (q2 : Nat) (q3 : RuL), ((q1, q2, Y, q3) : Bool × Nat × TS × RuL).1 = ((q1, q2, X, q3) : Bool × Nat × TS × RuL).1 ∧ ((q1, q2, Y, q3) : Bool × Nat × TS × RuL).2.1 = ((q1, q2, X, q3) : Bool × Nat × TS × RuL).2.1 ∧ TsEq ((q1, q2, X, q3) : Bool × Nat × TS × RuL).2.2.1 ((q1, q2, Y, q3) : Bool × Nat × TS × RuL).2.2.1 ∧ ((q1, q2, Y, q3) : Bool × Nat × TS × RuL).2.2.2 = ((q1, q2, X, q3) : Bool × Nat × TS × RuL).2.2.2 := fun _ _ _ => ⟨rfl, rfl, h, rfl⟩
  unfold sentW
  by_cases c1 : (sideW b n 7 p).1 = false
  · rw [if_pos c1, if_pos c1]; exact triv _ _ _
  · rw [if_neg c1, if_neg c1]
    have a5 := a5 (by simpa using c1)
    by_cases c2 : byt b n (skp b n (sideW b n 7 p).2.1) = 62
    · rw [if_pos c2, if_pos c2]
      by_cases c3 : ((sideW b n 7 p).2.2.length = 1 ∧ letW (sideW b n 7 p).2.2 ≠ 0) ∨ 6 ≤ rl.length
      · rw [if_pos c3, if_pos c3]; exact triv _ _ _
      · rw [if_neg c3, if_neg c3]
        by_cases c4 : (sideW b n (letW (sideW b n 7 p).2.2) (skp b n (sideW b n 7 p).2.1 + 1)).1 = false
        · rw [if_pos c4, if_pos c4]; exact triv _ _ _
        · rw [if_neg c4, if_neg c4]
          by_cases c5 : tkB b n (sideW b n (letW (sideW b n 7 p).2.2) (skp b n (sideW b n 7 p).2.1 + 1)).2.1 59
          · rw [if_pos c5, if_pos c5]; exact triv _ _ _
          · rw [if_neg c5, if_neg c5]; exact triv _ _ _
    · rw [if_neg c2, if_neg c2]
      by_cases c3 : letW (sideW b n 7 p).2.2 ≠ 0
      · rw [if_pos c3, if_pos c3]; exact triv _ _ _
      · rw [if_neg c3, if_neg c3]
        have c3 : letW (sideW b n 7 p).2.2 = 0 := by omega
        have w7 := letW_no (fun s hs => (a4 s hs).2.1) c3
        by_cases c4 : byt b n (skp b n (sideW b n 7 p).2.1) = 61
        · rw [if_pos c4, if_pos c4]
          have l1 : skp b n (sideW b n 7 p).2.1 < n := by
            by_cases z : skp b n (sideW b n 7 p).2.1 < n
            · exact z
            · unfold byt at c4; rw [if_neg z] at c4; omega
          obtain ⟨b1, b2, b3, b4, b5, b6, b7⟩ := sdW_b (b := b) (n := n) (may := 7) 121 [] [] (skp b n (sideW b n 7 p).2.1 + 1) (by omega)
          have b4 := b4 (fun s hs => by cases hs)
          by_cases c5 : (sideW b n 7 (skp b n (sideW b n 7 p).2.1 + 1)).1 = false
          · rw [if_pos c5, if_pos c5]; exact triv _ _ _
          · rw [if_neg c5, if_neg c5]
            have b5 := b5 (by simpa using c5)
            by_cases c6 : byt b n (skp b n (sideW b n 7 (skp b n (sideW b n 7 p).2.1 + 1)).2.1) = 59 ∧ letW (sideW b n 7 (skp b n (sideW b n 7 p).2.1 + 1)).2.2 = 0
            · rw [if_pos c6, if_pos c6]
              have v7 := letW_no (fun s hs => (b4 s hs).2.1) c6.2
              rcases trmW_e5 hX hY h (fun s hs => ⟨(a4 s hs).1, (a4 s hs).2.1⟩) w7 a5 (v := some (sideW b n 7 (skp b n (sideW b n 7 p).2.1 + 1)).2.2) (fun x hx => by
                rw [← Option.some.inj hx]
                exact ⟨fun s hs => ⟨(b4 s hs).1, (b4 s hs).2.1⟩, v7, b5⟩) with ⟨q1, q2⟩ | ⟨X', Y', q1, q2, e⟩
              · rw [q1, q2]; exact triv _ _ _
              · rw [q1, q2]; exact ⟨rfl, rfl, e, rfl⟩
            · rw [if_neg c6, if_neg c6]; exact triv _ _ _
        · rw [if_neg c4, if_neg c4]
          by_cases c5 : byt b n (skp b n (sideW b n 7 p).2.1) = 59
          · rw [if_pos c5, if_pos c5]
            rcases trmW_e5 hX hY h (fun s hs => ⟨(a4 s hs).1, (a4 s hs).2.1⟩) w7 a5 (v := none) (fun x hx => by cases hx) with ⟨q1, q2⟩ | ⟨X', Y', q1, q2, e⟩
            · rw [q1, q2]; exact triv _ _ _
            · rw [q1, q2]; exact ⟨rfl, rfl, e, rfl⟩
          · rw [if_neg c5, if_neg c5]; exact triv _ _ _
theorem readW_e5 {b : Nat → Int} {n : Nat} : ∀ (f k p : Nat) (X Y : TS) (rl : RuL), p ≤ n → rl.length ≤ 6 → TsOK X → TsOK Y → TsEq X Y → (readW b n f k p Y rl).1 = (readW b n f k p X rl).1 ∧ (readW b n f k p Y rl).2.1 = (readW b n f k p X rl).2.1 ∧ TsEq (readW b n f k p X rl).2.2.1 (readW b n f k p Y rl).2.2.1 ∧ (readW b n f k p Y rl).2.2.2 = (readW b n f k p X rl).2.2.2 := by
  intro f
  induction f with
  | zero => intro k p X Y rl _ _ _ _ h; exact ⟨rfl, rfl, h, rfl⟩
  | succ f ih =>
    intro k p X Y rl hp hl hX hY h
    have hs := skp_b (b := b) hp
    simp only [readW]
    by_cases c : byt b n (skp b n p) = -1
    · rw [if_pos c, if_pos c]
      by_cases k0 : k = 0
      · rw [if_pos k0, if_pos k0]; exact ⟨rfl, rfl, h, rfl⟩
      · rw [if_neg k0, if_neg k0]; exact ⟨rfl, rfl, h, rfl⟩
    · rw [if_neg c, if_neg c]
      obtain ⟨e1, e2, e3, e4⟩ := sentW_e5 (b := b) (rl := rl) hs.2 hX hY h
      obtain ⟨b1, b2, b3⟩ := sentW_b (b := b) (rl := rl) hs.2 hX hl
      obtain ⟨d1, d2, d3⟩ := sentW_b (b := b) (rl := rl) hs.2 hY hl
      by_cases ok : (sentW b n (skp b n p) X rl).1 = true
      · rw [if_pos ok, if_pos (by rw [e1]; exact ok), e2, e4]
        obtain ⟨g1, g2, g3, g4⟩ := b2 ok
        exact ih (k + 1) _ _ _ _ b1 g4 g2 (d2 (by rw [e1]; exact ok)).2.1 e3
      · rw [if_neg ok, if_neg (by rw [e1]; exact ok), e2]
        exact ⟨rfl, rfl, h, rfl⟩
theorem readW_pos {b : Nat → Int} {n : Nat} : ∀ (f k p : Nat) (X : TS) (rl : RuL), p ≤ n → rl.length ≤ 6 → TsOK X → ((readW b n f k p X rl).1 = true → 0 < (readW b n f k p X rl).2.1 ∧ (readW b n f k p X rl).2.1 ≤ k + f ∧ TsOK (readW b n f k p X rl).2.2.1 ∧ (readW b n f k p X rl).2.2.2.length ≤ 6) ∧ ((readW b n f k p X rl).1 = false → (readW b n f k p X rl).2.1 < 0 ∧ -10 - (n : Int) ≤ (readW b n f k p X rl).2.1) := by
  intro f
  induction f with
  | zero => intro k p X rl hp _ _; exact ⟨fun h => by simp [readW] at h, fun _ => by simp only [readW]; omega⟩
  | succ f ih =>
    intro k p X rl hp hl hX
    have hs := skp_b (b := b) hp
    simp only [readW]
    by_cases c : byt b n (skp b n p) = -1
    · rw [if_pos c]
      by_cases k0 : k = 0
      · rw [if_pos k0]; exact ⟨fun h => by simp at h, fun _ => by simp only; omega⟩
      · rw [if_neg k0]; exact ⟨fun _ => ⟨by simp only; omega, by simp only; omega, hX, hl⟩, fun h => by simp at h⟩
    · rw [if_neg c]
      obtain ⟨b1, b2, b3⟩ := sentW_b (b := b) (rl := rl) hs.2 hX hl
      by_cases ok : (sentW b n (skp b n p) X rl).1 = true
      · rw [if_pos ok]
        obtain ⟨g1, g2, g3, g4⟩ := b2 ok
        have := ih (k + 1) _ _ _ b1 g4 g2
        exact ⟨fun z => by have := this.1 z; exact ⟨this.1, by omega, this.2.2⟩, this.2⟩
      · rw [if_neg ok]; exact ⟨fun h => by simp at h, fun _ => by simp only; omega⟩
