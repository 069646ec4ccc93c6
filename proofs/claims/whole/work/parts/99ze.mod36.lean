/-! ===== 99ze: a SENTENCE of TERMS, as the reference does it (no machine) ===== -/
set_option maxRecDepth 20000 in
theorem clX_e4 {X : TS} : TsE4 X (clX X) := ⟨rfl, fun _ _ => ⟨rfl, rfl, rfl, rfl⟩⟩
set_option maxRecDepth 20000 in
theorem bT_end0 {y : Bool} {lt : Nat → Int} {w : List Int} (ht : okW w ∧ dpth w = 1) (h7 : ∀ s ∈ w, s < 7) {X : TS} (h50 : X.1 ≤ 50) (ov : Bool) : (bT y lt 0 w [] (-1) X ov).1 = [] :=
  bT_end w [] (-1) X ov ht.1 (fun p hp => by cases hp) h50 (fun s hs z => by have := h7 s hs; omega) (Or.inl ht.2)
set_option maxRecDepth 20000 in
theorem lastZ_I {n : Nat} {ms : List Int} (h : MsOK n ms) (hne : ms ≠ []) : lastZ ms = ((lastI ms : Nat) : Int) := by
  have hm : lastZ ms ∈ ms := by
    unfold lastZ
    rw [List.getLastD_eq_getLast?, List.getLast?_eq_some_getLast hne]
    exact List.getLast_mem hne
  have := h _ hm
  unfold lastI
  show lastZ ms = (((lastZ ms).toNat : Nat) : Int)
  omega
set_option maxRecDepth 20000 in
theorem lastZ_app {a b : List Int} (hb : b ≠ []) : lastZ (a ++ b) = lastZ b := by
  unfold lastZ
  rw [List.getLastD_eq_getLast?, List.getLastD_eq_getLast?, List.getLast?_append, List.getLast?_eq_some_getLast hb]
  rfl
/-- the words of a SENTENCE of TERMS -/
def TW (w : List Int) : Prop := (∀ s ∈ w, 0 ≤ s ∧ s ≤ 9) ∧ (∀ s ∈ w, s < 7) ∧ (∃ s ∈ w, s < 4 ∨ 7 ≤ s) ∧ okW w ∧ dpth w = 1
set_option maxRecDepth 20000 in
theorem TW.ne {w : List Int} (h : TW w) : w ≠ [] := by
  obtain ⟨_, _, ⟨s, hs, _⟩, _⟩ := h
  intro z; rw [z] at hs; cases hs
-- the first side
set_option maxRecDepth 20000 in
theorem young1 {X : TS} (hX : TsOK X) {w : List Int} (hw : TW w) (lt : Nat → Int) : match bW (fun _ => 0) 0 w [] X [] with
    | none => (bT true lt 0 w [] (-1) (clX X) false).2.2.2 = true
    | some o => ∃ Z1, bW (fun _ => 0) 0 w [] (clX X) [] = some (Z1, o.2) ∧ (bT true lt 0 w [] (-1) (clX X) false).2.2.1 = yX o.2 Z1 ∧ (bT true lt 0 w [] (-1) (clX X) false).2.2.2 = false ∧ (bT true lt 0 w [] (-1) (clX X) false).2.1 = ((lastI o.2 : Nat) : Int) ∧ lastI o.2 < o.1.1 ∧ TsE4 o.1 Z1 ∧ TsOK o.1 ∧ TsOK Z1 ∧ TsExt X o.1 ∧ TsNew X o.1 ∧ TsExt (clX X) Z1 ∧ TsNew (clX X) Z1 := by
  obtain ⟨h9, h7, hn, ho⟩ := hw
  have hZ := (clX_ok hX).1
  have yg := bT_young (lt := lt) w [] (-1) (clX X) [] (fun z => by rw [z] at hn; obtain ⟨s, hs, _⟩ := hn; cases hs)
  have eY : yX [] (clX X) = clX X := rfl
  rw [eY] at yg
  have en := bT_end0 (y := true) (lt := lt) ho h7 (X := clX X) hX.1 false
  rw [bW_lt (lt := lt) (lt' := fun _ => 0) w [] (clX X) [] h7] at yg
  rcases bW_e4 (lt := fun _ => 0) (lt' := fun _ => 0) (g := 0) w [] X (clX X) [] clX_e4 (fun _ _ _ => rfl) with ⟨a, b⟩ | ⟨X1, Z1, ms, a, b, e⟩
  · rw [a]; rw [b] at yg; exact yg
  · rw [a]; rw [b] at yg
    obtain ⟨y1, y2, y3⟩ := yg
    obtain ⟨p1, p2, p3, p4, _⟩ := bW_ok ⟨by decide, by decide⟩ w [] X [] X1 ms a h9 (fun s hs z => by have := h7 s hs; omega) hX (fun q hq => by cases hq) (fun q hq => by cases hq)
    obtain ⟨q1, q2, q3, q4, _⟩ := bW_ok ⟨by decide, by decide⟩ w [] (clX X) [] Z1 ms b h9 (fun s hs z => by have := h7 s hs; omega) hZ (fun q hq => by cases hq) (fun q hq => by cases hq)
    have ne1 := bW_ne w [] X [] X1 ms a (Or.inr hn)
    exact ⟨Z1, b, y1, y2, by rw [y3 en]; exact lastZ_I p4 ne1, (lastI_in p4 ne1).1, e, p1, q1, p2, p3, q2, q3⟩
-- both sides, in a row
set_option maxRecDepth 20000 in
theorem young2 {X1 Z1 : TS} (h1 : TsOK X1) (hz : TsOK Z1) (e : TsE4 X1 Z1) {v : List Int} (hv : TW v) (lt : Nat → Int) (m1 : List Int) : match bW (fun _ => 0) 0 v [] X1 [] with
    | none => (bT true lt 0 v [] (-1) (yX m1 Z1) false).2.2.2 = true
    | some o => ∃ Z2, (bT true lt 0 v [] (-1) (yX m1 Z1) false).2.2.1 = yX (m1 ++ o.2) Z2 ∧ (bT true lt 0 v [] (-1) (yX m1 Z1) false).2.2.2 = false ∧ (bT true lt 0 v [] (-1) (yX m1 Z1) false).2.1 = ((lastI o.2 : Nat) : Int) ∧ lastI o.2 < o.1.1 ∧ TsE4 o.1 Z2 ∧ TsOK o.1 ∧ TsOK Z2 ∧ TsExt X1 o.1 ∧ TsNew X1 o.1 ∧ TsExt Z1 Z2 ∧ TsNew Z1 Z2 := by
  obtain ⟨h9, h7, hn, ho⟩ := hv
  have yg := bT_young (lt := lt) v [] (-1) Z1 m1 (fun z => by rw [z] at hn; obtain ⟨s, hs, _⟩ := hn; cases hs)
  have ac := bW_acc (lt := fun _ => 0) (g := 0) m1 v [] Z1 []
  rw [List.append_nil] at ac
  rw [bW_lt (lt := lt) (lt' := fun _ => 0) v [] Z1 m1 h7, ac] at yg
  have en := bT_end0 (y := true) (lt := lt) ho h7 (X := yX m1 Z1) hz.1 false
  rcases bW_e4 (lt := fun _ => 0) (lt' := fun _ => 0) (g := 0) v [] X1 Z1 [] e (fun _ _ _ => rfl) with ⟨a, b⟩ | ⟨X2, Z2, ms, a, b, e2⟩
  · rw [a]; rw [b] at yg; exact yg
  · rw [a]; rw [b] at yg
    simp only [Option.map_some] at yg
    obtain ⟨y1, y2, y3⟩ := yg
    obtain ⟨p1, p2, p3, p4, _⟩ := bW_ok ⟨by decide, by decide⟩ v [] X1 [] X2 ms a h9 (fun s hs z => by have := h7 s hs; omega) h1 (fun q hq => by cases hq) (fun q hq => by cases hq)
    obtain ⟨q1, q2, q3, q4, _⟩ := bW_ok ⟨by decide, by decide⟩ v [] Z1 [] Z2 ms b h9 (fun s hs z => by have := h7 s hs; omega) hz (fun q hq => by cases hq) (fun q hq => by cases hq)
    have ne1 := bW_ne v [] X1 [] X2 ms a (Or.inr hn)
    exact ⟨Z2, y1, y2, by rw [y3 en, lastZ_app ne1]; exact lastZ_I p4 ne1, (lastI_in p4 ne1).1, e2, p1, q1, p2, p3, q2, q3⟩
set_option maxRecDepth 20000 in
theorem TsNew.trans' {X Y Z : TS} (a : TsNew X Y) (b : TsNew Y Z) (e : TsExt Y Z) : TsNew X Z := fun t t1 t2 => by
  by_cases c : t < Y.1
  · rw [(e.2 t c).2.2.2.2]; exact a t t1 c
  · exact b t (by omega) t2
set_option maxRecDepth 20000 in
theorem yX_ok {X : TS} (h : TsOK X) (ms : List Int) : TsOK (yX ms X) := by
  refine ⟨h.1, h.2.1, h.2.2.1, ?_⟩
  have : ∀ (ms : List Int) (g : Nat → Int), (∀ t, t < X.1 → 0 ≤ g t ∧ g t ≤ 9) → ∀ t, t < X.1 → 0 ≤ gzL ms g t ∧ gzL ms g t ≤ 9 := by
    intro ms
    induction ms with
    | nil => intro g hg; exact hg
    | cons a ms ih =>
      intro g hg
      refine ih _ (fun t ht => ?_)
      by_cases e : t = a.toNat
      · rw [e, vup_s]; exact ⟨by decide, by decide⟩
      · rw [vup_n e]; exact hg t ht
  exact this ms _ h.2.2.2
-- what a side reads is a tree
set_option maxRecDepth 20000 in
theorem sd_tree {b : Nat → Int} {n may p : Nat} (h : (sideW b n may p).1 = true) : TreeW (sideW b n may p).2.2 := by
  have r := rdS_word (b := b) (n := n) (may := may) ((0, fun _ => 0, fun _ => 0, fun _ => 0, fun _ => 0, fun _ => 0, fun _ => 0, p) : ZS)
  obtain ⟨a, _, c⟩ := r
  obtain ⟨w, r, r1, r2, r3, r4⟩ := c (by rw [a]; exact h)
  exact ⟨0, _, _, _, _, r, w.1, w.2.1, Nat.zero_le _, by rw [r2]; omega, r4⟩
set_option maxRecDepth 20000 in
theorem tree_ne {w : List Int} (h : TreeW w) : w ≠ [] := by
  intro z
  have := h.ok.2
  rw [z] at this
  simp [dpth] at this
-- a tree that begins with a LETTER is that LETTER
set_option maxRecDepth 20000 in
theorem tree_letter {w : List Int} (h : TreeW w) (h9 : ∀ s ∈ w, 0 ≤ s ∧ s ≤ 9) : 7 ≤ w.getD 0 0 ↔ (w.length = 1 ∧ letW w ≠ 0) := by
  obtain ⟨ok, dp⟩ := h.ok
  cases w with
  | nil => simp [dpth] at dp
  | cons s w =>
    have h9' : ∀ x ∈ s :: w, x ≤ 9 := fun x hx => (h9 x hx).2
    have g0 : (s :: w).getD 0 0 = s := rfl
    rw [g0]
    constructor
    · intro h7
      have hw : w = [] := by
        by_cases e : w = []
        · exact e
        · have := dpth_pos w ok.1 e
          simp only [dpth] at dp
          rw [if_neg (by omega), if_neg (by omega)] at dp
          omega
      refine ⟨by rw [hw]; rfl, fun z => ?_⟩
      have s9 := h9 s List.mem_cons_self
      have := (letW_bit (l := (s - 7).toNat) (by omega) h9').mpr (by rw [show 7 + (((s - 7).toNat : Nat) : Int) = s by omega]; exact List.mem_cons_self)
      rw [z] at this
      simp at this
    · rintro ⟨h1, h2⟩
      have hw : w = [] := by
        cases w with
        | nil => rfl
        | cons a b => simp at h1
      subst hw
      by_cases c : 7 ≤ s
      · exact c
      · exfalso
        apply h2
        show (if 7 ≤ s then (0 : Nat) ||| 1 <<< (s - 7).toNat else 0) = 0
        rw [if_neg c]
-- without LETTERS
set_option maxRecDepth 20000 in
theorem let0 {w : List Int} (h9 : ∀ s ∈ w, 0 ≤ s ∧ s ≤ 9) (h : letW w = 0) : ∀ s ∈ w, s < 7 := fun s hs => by
  by_cases c : s < 7
  · exact c
  · exfalso
    have s9 := h9 s hs
    have := (letW_bit (w := w) (l := (s - 7).toNat) (by omega) (fun x hx => (h9 x hx).2)).mpr (by rw [show 7 + (((s - 7).toNat : Nat) : Int) = s by omega]; exact hs)
    rw [h] at this
    simp at this
-- what a side read is like
set_option maxRecDepth 20000 in
theorem sd_ok {b : Nat → Int} {n may p : Nat} (hp : p ≤ n) (h : (sideW b n may p).1 = true) : (∀ s ∈ (sideW b n may p).2.2, 0 ≤ s ∧ s ≤ 9 ∧ (7 ≤ s → may.testBit (s - 7).toNat = true)) ∧ (∃ s ∈ (sideW b n may p).2.2, s < 4 ∨ 7 ≤ s) ∧ (sideW b n may p).2.2.length + p ≤ (sideW b n may p).2.1 ∧ (sideW b n may p).2.1 ≤ n ∧ p + 1 ≤ (sideW b n may p).2.1 := by
  obtain ⟨a1, a2, a3, a4, a5, a6, a7⟩ := sdW_b (b := b) (n := n) (may := may) 121 [] [] p hp
  exact ⟨a4 (fun s hs => by cases hs), a5 h, by simpa using a7, a2, a3 h⟩
set_option maxRecDepth 20000 in
theorem sd_TW {b : Nat → Int} {n may p : Nat} (hp : p ≤ n) (h : (sideW b n may p).1 = true) (h0 : letW (sideW b n may p).2.2 = 0) : TW (sideW b n may p).2.2 := by
  obtain ⟨a, b', _, _⟩ := sd_ok hp h
  exact ⟨fun s hs => ⟨(a s hs).1, (a s hs).2.1⟩, let0 (fun s hs => ⟨(a s hs).1, (a s hs).2.1⟩) h0, b', (sd_tree h).ok⟩
-- a RULE read
set_option maxRecDepth 20000 in
theorem sd_RuOK {b : Nat → Int} {n p p2 : Nat} (hn : n ≤ 120) (hp : p ≤ n) (h1 : (sideW b n 7 p).1 = true) (hp1 : (sideW b n 7 p).2.1 ≤ p2) (hp2 : p2 ≤ n) (h2 : (sideW b n (letW (sideW b n 7 p).2.2) p2).1 = true) : RuOK ((sideW b n 7 p).2.2, (sideW b n (letW (sideW b n 7 p).2.2) p2).2.2) := by
  obtain ⟨a1, a2, a3, a4, a5⟩ := sd_ok hp h1
  obtain ⟨b1, b2, b3, b4, b5⟩ := sd_ok hp2 h2
  have l1 := List.length_pos_iff.mpr (tree_ne (sd_tree h1))
  have l2 := List.length_pos_iff.mpr (tree_ne (sd_tree h2))
  refine ⟨fun s hs => ⟨(a1 s hs).1, (a1 s hs).2.1⟩, fun s hs => ⟨(b1 s hs).1, (b1 s hs).2.1⟩, fun s hs h7 => ?_, b2, by simp only; omega, l1, l2⟩
  have q := b1 s hs
  have := (letW_bit (w := (sideW b n 7 p).2.2) (l := (s - 7).toNat) (by omega) (fun x hx => (a1 x hx).2.1)).mp (q.2.2 h7)
  rw [show 7 + (((s - 7).toNat : Nat) : Int) = s by omega] at this
  exact this
