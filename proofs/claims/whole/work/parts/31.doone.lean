/-! ===== 31: building keeps TERMS well; Round.buildRight ===== -/
def TsOK (X : TS) : Prop := X.1 ≤ 50 ∧ WFT X.1 X.2.1 X.2.2.1 X.2.2.2.1 ∧ HO X.1 X.2.2.2.2.2 ∧ ∀ t, t < X.1 → 0 ≤ X.2.2.2.2.1 t ∧ X.2.2.2.2.1 t ≤ 9
/-- X' has X's TERMS and maybe more -/
def TsExt (X X' : TS) : Prop := X.1 ≤ X'.1 ∧ ∀ j, j < X.1 → X'.2.1 j = X.2.1 j ∧ X'.2.2.1 j = X.2.2.1 j ∧ X'.2.2.2.1 j = X.2.2.2.1 j ∧ X'.2.2.2.2.1 j = X.2.2.2.2.1 j ∧ X'.2.2.2.2.2 j = X.2.2.2.2.2 j
theorem TsExt.rfl {X : TS} : TsExt X X := ⟨Nat.le_refl _, fun _ _ => ⟨Eq.refl _, Eq.refl _, Eq.refl _, Eq.refl _, Eq.refl _⟩⟩
theorem TsExt.trans {X Y Z : TS} (a : TsExt X Y) (b : TsExt Y Z) : TsExt X Z := ⟨Nat.le_trans a.1 b.1, fun j hj => by
  obtain ⟨a1, a2, a3, a4, a5⟩ := a.2 j hj
  obtain ⟨b1, b2, b3, b4, b5⟩ := b.2 j (Nat.lt_of_lt_of_le hj a.1)
  exact ⟨b1.trans a1, b2.trans a2, b3.trans a3, b4.trans a4, b5.trans a5⟩⟩
/-- PARTS that fit a SIGN -/
def PtOK (n : Nat) (s a b : Int) : Prop := 0 ≤ s ∧ s ≤ 6 ∧ (s < 4 → a = -1) ∧ (4 ≤ s → 0 ≤ a ∧ a < n) ∧ (s < 6 → b = -1) ∧ (s = 6 → 0 ≤ b ∧ b < n)
theorem tsAdd_ok {X : TS} {s a b g : Int} (h : TsOK X) (hn : X.1 < 50) (hp : PtOK X.1 s a b) (hg : 0 ≤ g ∧ g ≤ 9) : TsOK (tsAdd X s a b g) := by
  obtain ⟨h1, h2, h3, h4⟩ := h
  obtain ⟨p1, p2, p3, p4, p5, p6⟩ := hp
  refine ⟨by simp [tsAdd]; omega, fun t ht => ?_, fun t ht => ?_, fun t ht => ?_⟩
  · simp only [tsAdd] at ht ⊢
    by_cases e : t = X.1
    · subst e
      simp only [vup_s]
      refine ⟨p1, p2, ?_, ?_, ?_, ?_, p3, fun z => (p4 z).1, p5, fun z => (p6 z).1⟩
      · by_cases z : s < 4
        · have := p3 z; omega
        · have := p4 (by omega); omega
      · by_cases z : s < 4
        · have := p3 z; omega
        · have := p4 (by omega); omega
      · by_cases z : s < 6
        · have := p5 z; omega
        · have := p6 (by omega); omega
      · by_cases z : s < 6
        · have := p5 z; omega
        · have := p6 (by omega); omega
    · simp only [vup_n e]
      exact h2 t (by omega)
  · simp only [tsAdd] at ht ⊢
    by_cases e : t = X.1
    · subst e
      simp only [vup_s]
      refine ⟨by omega, by omega, ?_⟩
      rw [show ((X.1 : Nat) : Int).toNat = X.1 by omega, vup_s]
    · have := h3 t (by omega)
      rw [vup_n e]
      refine ⟨this.1, this.2.1, ?_⟩
      rw [vup_n (by omega)]
      exact this.2.2
  · simp only [tsAdd] at ht ⊢
    by_cases e : t = X.1
    · subst e; rw [vup_s]; exact hg
    · rw [vup_n e]; exact h4 t (by omega)
theorem tsCome_ok {X X' : TS} {s a b g t : Int} (hc : tsCome X s a b g = some (t, X')) (h : TsOK X) (hp : PtOK X.1 s a b) (hg : 0 ≤ g ∧ g ≤ 9) : TsOK X' ∧ TsExt X X' := by
  have hi := tsCome_in hc
  refine ⟨?_, hi.1, hi.2.2.2.2⟩
  unfold tsCome at hc
  split at hc
  · split at hc
    · next hn =>
      simp only [Option.some.injEq, Prod.mk.injEq] at hc
      obtain ⟨rfl, rfl⟩ := hc
      exact tsAdd_ok h hn hp hg
    · cases hc
  · simp only [Option.some.injEq, Prod.mk.injEq] at hc
    obtain ⟨rfl, rfl⟩ := hc
    exact h
/-- nodes fr .. sz - 1 have their parts among themselves -/
def SideOK (fr sz : Nat) (pon pot : Nat → Int) : Prop := ∀ i, fr ≤ i → i < sz → (0 ≤ pon i → (fr : Int) ≤ pon i) ∧ (0 ≤ pot i → (fr : Int) ≤ pot i)
theorem bdF_ok {psg pon pot lt : Nat → Int} {g : Int} {fr sz : Nat} (hw : WFN sz psg pon pot) (hsz : sz ≤ 120) (hs : SideOK fr sz pon pot) (hg : 0 ≤ g ∧ g ≤ 9) : ∀ (k i : Nat) (X : TS) (md : Nat → Int) (X' : TS) (md' : Nat → Int), i + k ≤ sz → fr ≤ i → bdF psg pon pot lt g k i X md = some (X', md') → TsOK X → (∀ j, fr ≤ j → j < i → 0 ≤ md j ∧ md j < X.1) → (∀ j, i ≤ j → j < i + k → 7 ≤ psg j → 0 ≤ lt (psg j - 7).toNat ∧ lt (psg j - 7).toNat < X.1) →
    TsOK X' ∧ TsExt X X' ∧ (∀ j, fr ≤ j → j < i + k → 0 ≤ md' j ∧ md' j < X'.1) := by
  intro k
  induction k with
  | zero =>
    intro i X md X' md' hik hfi hb hX hmd _
    simp only [bdF, Option.some.injEq, Prod.mk.injEq] at hb
    obtain ⟨rfl, rfl⟩ := hb
    exact ⟨hX, TsExt.rfl, fun j a b => hmd j a (by omega)⟩
  | succ k ih =>
    intro i X md X' md' hik hfi hb hX hmd hl
    have w := hw i (by omega)
    have sd := hs i hfi (by omega)
    simp only [bdF] at hb
    split at hb
    · next h7 =>
      have l7 := hl i (by omega) (by omega) h7
      obtain ⟨a, b, c⟩ := ih (i + 1) X _ X' md' (by omega) (by omega) hb hX (fun j j1 j2 => by
        by_cases e : j = i
        · subst e; rw [vup_s]; exact l7
        · rw [vup_n e]; exact hmd j j1 (by omega)) (fun j j1 j2 => hl j (by omega) (by omega))
      exact ⟨a, b, fun j j1 j2 => c j j1 (by omega)⟩
    · next h7 =>
      cases hc : tsCome X (psg i) (svOf md 120 (-1) (pon i)) (svOf md 120 (-1) (pot i)) g with
      | none => rw [hc] at hb; cases hb
      | some tX =>
        obtain ⟨t, X1⟩ := tX
        rw [hc] at hb
        simp only at hb
        have pv : ∀ x : Int, 0 ≤ x → x < i → (fr : Int) ≤ x → 0 ≤ svOf md 120 (-1) x ∧ svOf md 120 (-1) x < X.1 := by
          intro x x0 x1 x2
          unfold svOf; rw [if_pos ⟨x0, by omega⟩]
          exact hmd x.toNat (by omega) (by omega)
        have nv : ∀ x : Int, x = -1 → svOf md 120 (-1) x = -1 := by intro x hx; unfold svOf; rw [if_neg (by omega)]
        have hp : PtOK X.1 (psg i) (svOf md 120 (-1) (pon i)) (svOf md 120 (-1) (pot i)) := by
          refine ⟨w.1, by omega, fun z => nv _ (w.2.2.2.2.2.2.1 z).1, fun z => ?_, fun z => ?_, fun z => ?_⟩
          · have := w.2.2.2.2.2.2.2.2.1 ⟨z, by omega⟩
            exact pv _ this (by omega) (sd.1 this)
          · by_cases z4 : psg i < 4
            · exact nv _ (w.2.2.2.2.2.2.1 z4).2
            · exact nv _ (w.2.2.2.2.2.2.2.2.2.1 ⟨by omega, z⟩)
          · have := w.2.2.2.2.2.2.2.2.2.2 z
            exact pv _ this (by omega) (sd.2 this)
        obtain ⟨o1, o2⟩ := tsCome_ok hc hX hp hg
        have hi := tsCome_in hc
        obtain ⟨a, b, c⟩ := ih (i + 1) X1 _ X' md' (by omega) (by omega) hb o1 (fun j j1 j2 => by
          by_cases e : j = i
          · subst e; rw [vup_s]; exact ⟨hi.2.2.1, hi.2.2.2.1⟩
          · rw [vup_n e]; have := hmd j j1 (by omega); have := hi.1; omega) (fun j j1 j2 j3 => by have := hl j (by omega) (by omega) j3; have := hi.1; omega)
        exact ⟨a, o2.trans b, fun j j1 j2 => c j j1 (by omega)⟩
theorem bdF_lt {psg pon pot lt lt' : Nat → Int} {g : Int} : ∀ {k i : Nat} {X : TS} {md : Nat → Int}, (∀ j, i ≤ j → j < i + k → 7 ≤ psg j → lt (psg j - 7).toNat = lt' (psg j - 7).toNat) → bdF psg pon pot lt g k i X md = bdF psg pon pot lt' g k i X md := by
  intro k
  induction k with
  | zero => intro i X md _; rfl
  | succ k ih =>
    intro i X md h
    simp only [bdF]
    by_cases h7 : 7 ≤ psg i
    · rw [if_pos h7, if_pos h7, h i (by omega) (by omega) h7]
      exact ih (fun j a b => h j (by omega) (by omega))
    · rw [if_neg h7, if_neg h7]
      cases tsCome X (psg i) (svOf md 120 (-1) (pon i)) (svOf md 120 (-1) (pot i)) g with
      | none => rfl
      | some tX => exact ih (fun j a b => h j (by omega) (by omega))
/-- the LETTERS' TERMS of a FINDING -/
def ltOf (n : Nat) (ho : Nat → Int) (x y z : Int) : Nat → Int := fun l => tmHome n ho (tmPart 0 x y z 0 0 l)
section S31
variable {S : tmS} {I : Nat → Nat → Int} {L : Nat → Nat → Int64}
/-- the FINDING k of f, as told -/
def Ent (L : Nat → Nat → Int64) (f k : Nat) (r x y z P g : Int) : Prop := L (f + 1) k = tmPk r x y z P g ∧ isDg r ∧ isDg x ∧ isDg y ∧ isDg z ∧ isDg P ∧ isDg g
/-- rows that buildRight changes -/
def BrFr (I I' : Nat → Nat → Int) : Prop := ∀ a, a ≠ 2 → a ≠ 3 → a ≠ 4 → a ≠ 5 → a ≠ 6 → a ≠ 7 → a ≠ 141 → a ≠ 142 → I' a = I a
abbrev BrPost (S : tmS) (I : Nat → Nat → Int) (L : Nat → Nat → Int64) (n last : Nat) (res : Option (TS × (Nat → Int))) : Option tmV → tmH → Prop := fun r h' => ∃ I', h' = (S, I', L) ∧ BrFr I I' ∧
  match res with
  | none => r = some (tI (-1)) ∧ I' 2 0 = (n : Int) ∧ ∀ a, 3 ≤ a → a ≤ 7 → ∀ t, t < n → I' a t = I a t
  | some (X, md) => r = some (tI (md last)) ∧ I' 2 0 = (X.1 : Int) ∧ tsOf I' X.1 = X
/-- RIGHT of the rule at p: its parts are in it, its LETTERS are told -/
def RightOK (I : Nat → Nat → Int) (p sz lf : Nat) (n : Nat) (lt : Nat → Int) : Prop := SideOK lf sz (I (p + 2)) (I (p + 3)) ∧ ∀ i, lf ≤ i → i < sz → 7 ≤ I (p + 1) i → 0 ≤ lt (I (p + 1) i - 7).toNat ∧ lt (I (p + 1) i - 7).toNat < n
set_option maxRecDepth 20000 in
set_option maxHeartbeats 2000000 in
theorem c_buildRight (hL : LX S) {f m c k n nr : Nat} (hf : LFin S f m) (hfc : I f 1 = (c : Int)) (hcm : c ≤ m) (hk : k < c) (hf5 : f = 144 ∨ f = 150) {rr : Nat} {x y z P g : Int} (he : Ent L f k rr x y z P g) (hn : I 2 0 = (n : Int)) (hn5 : n ≤ 50) (hh : HO n (I 7)) (hnr : I 1 2 = (nr : Int)) (hnr6 : nr ≤ 6) (hrr : rr < nr) {p sz lf : Nat} (hp : S.2.2.2 8 rr = some p) (hw : RuleW S I p sz lf) (hro : RightOK I p sz lf n (ltOf n (I 7) x y z)) :
    tmC yX3_buildRight kX3_buildRight 4 0 0 [tR 149, tR f, tI k] (S, I, L) (BrPost S I L n (sz - 1) (bdF (I (p + 1)) (I (p + 2)) (I (p + 3)) (ltOf n (I 7) x y z) g (sz - lf) lf (tsOf I n) (I 142))) := by
  refine tmC.mk (lv := [some (tR 149), some (tR f), some (tI k), none]) 1 ⟨rfl, by decide +kernel, by decide⟩ rfl rfl ?_
  obtain ⟨e1, d0, d1, d2, d3, d4, d5⟩ := id he
  obtain ⟨q1, q2, q3, q4, q5, q6, q7, q8, q9, q10, q11⟩ := id hw
  have hfo := hf.1
  have o149 := oX149 hL
  have r149_0 := rX149_0 hL
  have r149_1 := rX149_1 hL
  have r149_2 := rX149_2 hL
  have r149_3 := rX149_3 hL
  have r149_4 := rX149_4 hL
  have r149_5 := rX149_5 hL
  have r149_6 := rX149_6 hL
  have r149_7 := rX149_7 hL
  have o140 := oX140 hL
  have r140_0 := rX140_0 hL
  have r140_1 := rX140_1 hL
  have r140_2 := rX140_2 hL
  have o141 := oX141 hL
  have o1 := oX1 hL
  have r1_0 := rX1_0 hL
  have r1_1 := rX1_1 hL
  have r1_3 := rX1_3 hL
  have o2 := oX2 hL
  have r2_1 := rX2_1 hL
  have r2_2 := rX2_2 hL
  have r2_3 := rX2_3 hL
  have r2_4 := rX2_4 hL
  have r2_5 := rX2_5 hL
  have hr : ∀ w, isDg w → inR w := fun w h => ⟨by have := h.1; omega, by have := h.2; omega⟩
  -- the three LETTERS
  have loop : ∀ (j l : Nat) (lt : Nat → Int), l + j = 3 → (∀ a, a < l → lt a = ltOf n (I 7) x y z a) → (∀ lt' : Nat → Int, (∀ a, a < 3 → lt' a = ltOf n (I 7) x y z a) → tmW kX3_buildRight 4 0 0 38 [some (tR 149), some (tR f), some (tI k), some (tI 3)] [] (S, va_up I 141 lt', L) (BrPost S I L n (sz - 1) (bdF (I (p + 1)) (I (p + 2)) (I (p + 3)) (ltOf n (I 7) x y z) g (sz - lf) lf (tsOf I n) (I 142)))) →
      tmW kX3_buildRight 4 0 0 2 [some (tR 149), some (tR f), some (tI k), some (tI l)] [] (S, va_up I 141 lt, L) (BrPost S I L n (sz - 1) (bdF (I (p + 1)) (I (p + 2)) (I (p + 3)) (ltOf n (I 7) x y z) g (sz - lf) lf (tsOf I n) (I 142))) := by
    intro j
    induction j with
    | zero =>
      intro l lt hl hlt kk
      obtain rfl : l = 3 := by omega
      refine wa_iload_n dX3_buildRight_2 rfl ?_
      refine wa_iconst dX3_buildRight_3 ?_
      refine wa_icmp_ge 38 dX3_buildRight_4 (by decide) (by exact ⟨by omega, by omega⟩) (by exact ⟨by omega, by omega⟩) (fun c_4 => ?_) (fun c_4 => ?_)
      · exact kk lt hlt
      · omega
    | succ j ih =>
      intro l lt hl hlt kk
      have hpt : tmPart rr x y z P g l = tmPart 0 x y z 0 0 l := by
        obtain rfl | rfl | rfl : l = 0 ∨ l = 1 ∨ l = 2 := by omega
        all_goals rfl
      have hptr : inR (tmPart rr x y z P g l) := by
        obtain rfl | rfl | rfl : l = 0 ∨ l = 1 ∨ l = 2 := by omega
        · exact hr _ d1
        · exact hr _ d2
        · exact hr _ d3
      have f2 : va_up I 141 lt 2 0 = (n : Int) := by rw [vup_n (by decide)]; exact hn
      have f7 : va_up I 141 lt 7 = I 7 := vup_n (by decide)
      refine wt_ir (fun hI => ?_)
      have hhr : inR (tmHome n (I 7) (tmPart rr x y z P g l)) := by unfold tmHome; split; (have := hI 7 (tmPart rr x y z P g l).toNat; rw [f7] at this; exact this); exact ⟨by omega, by omega⟩
      refine wa_iload_n dX3_buildRight_2 rfl ?_
      refine wa_iconst dX3_buildRight_3 ?_
      refine wa_icmp_ge 38 dX3_buildRight_4 (by decide) (by first | exact hhr | exact ⟨by omega, by omega⟩) (by first | exact hhr | exact ⟨by omega, by omega⟩) (fun c_4 => ?_) (fun c_4 => ?_)
      · omega
      · refine wa_aload_n dX3_buildRight_7 rfl ?_
        refine wt_getR dX3_buildRight_8 FX3_42 (by assumption) (by assumption) ?_
        refine wt_getR dX3_buildRight_11 FX3_127 (by assumption) (by assumption) ?_
        refine wa_iload_n dX3_buildRight_14 rfl ?_
        refine wa_aload_n dX3_buildRight_15 rfl ?_
        refine wt_getR dX3_buildRight_16 FX3_30 (by assumption) (by assumption) ?_
        refine wt_getR dX3_buildRight_19 FX3_103 (by assumption) (by assumption) ?_
        refine wa_aload_n dX3_buildRight_22 rfl ?_
        refine wa_iload_n dX3_buildRight_23 rfl ?_
        refine wa_iload_n dX3_buildRight_24 rfl ?_
        refine wa_callVf (ci := 1) dX3_buildRight_25 KX1_tell LX3_92 ⟨_, _, rfl, by decide⟩ hfo (c_tell hf (by rw [vup_n (by omega)]; exact hfc) hcm k l hk (by omega) d0 d1 d2 d3 d4 d5 e1) (by decide) rfl rfl (Nat.le_of_ble_eq_true rfl) rfl rfl ?_
        refine wa_callVf (ci := 8) dX3_buildRight_28 KX8_homeOf LX3_132 ⟨_, _, rfl, by decide⟩ o2 (by have := c_homeOf (I := va_up I 141 lt) (L := L) hL f2 hn5 (tmPart rr x y z P g l) hptr; rw [f7] at this; exact this) (by decide) rfl rfl (Nat.le_of_ble_eq_true rfl) rfl rfl ?_
        refine wt_iast _ dX3_buildRight_31 (by assumption) rfl (by omega) (by first | exact hhr | exact ⟨by omega, by omega⟩) ?_
        refine wa_iinc dX3_buildRight_32 rfl (by decide) ?_
        refine wa_goto 2 dX3_buildRight_35 (by decide) ?_
        rw [vup_vup, vup_s]
        refine ih (l + 1) _ (by omega) (fun a ha => ?_) kk
        by_cases e : a = l
        · subst e; rw [vup_s, hpt]; rfl
        · rw [vup_n e]; exact hlt a (by omega)
  have tail : ∀ lt' : Nat → Int, (∀ a, a < 3 → lt' a = ltOf n (I 7) x y z a) → tmW kX3_buildRight 4 0 0 38 [some (tR 149), some (tR f), some (tI k), some (tI 3)] [] (S, va_up I 141 lt', L) (BrPost S I L n (sz - 1) (bdF (I (p + 1)) (I (p + 2)) (I (p + 3)) (ltOf n (I 7) x y z) g (sz - lf) lf (tsOf I n) (I 142))) := by
    intro lt' hlt'
    generalize hJ : va_up I 141 lt' = J
    have gJ : ∀ a, a ≠ 141 → J a = I a := fun a ha => by rw [← hJ]; exact vup_n ha
    have j141 : J 141 = lt' := by rw [← hJ, vup_s]
    have jp := gJ p (by omega)
    have jp1 := gJ (p + 1) (by omega)
    have jp2 := gJ (p + 2) (by omega)
    have jp3 := gJ (p + 3) (by omega)
    have j2 := gJ 2 (by decide)
    have j1 := gJ 1 (by decide)
    have jf : J f 1 = (c : Int) := by rw [gJ f (by omega)]; exact hfc
    have hts : tsOf J n = tsOf I n := by simp only [tsOf, gJ 3 (by decide), gJ 4 (by decide), gJ 5 (by decide), gJ 6 (by decide), gJ 7 (by decide)]
    have hbe : bdF (I (p + 1)) (I (p + 2)) (I (p + 3)) lt' g (sz - lf) lf (tsOf I n) (I 142) = bdF (I (p + 1)) (I (p + 2)) (I (p + 3)) (ltOf n (I 7) x y z) g (sz - lf) lf (tsOf I n) (I 142) := bdF_lt (fun j j1 j2 j7 => by have := q8 j (by omega); exact hlt' _ (by omega))
    have hbl := c_build (I := J) (L := L) hL q2 (by omega) (by rw [jp]; exact q3) (Nat.le_refl _) q7 (by rw [jp1, jp2, jp3]; exact q8) lf sz n (Nat.le_refl _) q6 g (hr g d5) (by rw [j2]; exact hn) hn5 (fun i i1 i2 i7 => by rw [jp1] at i7 ⊢; rw [j141, hlt' _ (by have := q8 i (by omega); omega)]; exact (hro.2 i i1 i2 i7).1)
    rw [jp1, jp2, jp3, j141, hts, gJ 142 (by decide), hbe] at hbl
    refine wa_aload_n dX3_buildRight_38 rfl ?_
    refine wt_getR dX3_buildRight_39 FX3_30 (by assumption) (by assumption) ?_
    refine wa_aload_n dX3_buildRight_42 rfl ?_
    refine wa_iload_n dX3_buildRight_43 rfl ?_
    refine wa_iconst dX3_buildRight_44 ?_
    refine wa_callVf (ci := 1) dX3_buildRight_45 KX1_tell LX3_92 ⟨_, _, rfl, by decide⟩ hfo (c_tell hf jf hcm k 5 hk (by omega) d0 d1 d2 d3 d4 d5 e1) (by decide) rfl rfl (Nat.le_of_ble_eq_true rfl) rfl rfl ?_
    refine wa_callVf (ci := 6) dX3_buildRight_48 KX6_ruleAt LX3_135 ⟨_, _, rfl, by decide⟩ o1 (c_ruleAt hL (by rw [j1]; exact hnr) hnr6 rr hrr hp) (by decide) rfl rfl (Nat.le_of_ble_eq_true rfl) rfl rfl ?_
    refine wa_astore_n dX3_buildRight_51 (by decide) ?_
    refine wa_aload_n dX3_buildRight_52 rfl ?_
    refine wt_getR dX3_buildRight_53 FX3_42 (by assumption) (by assumption) ?_
    refine wa_aload_n dX3_buildRight_56 rfl ?_
    refine wa_aload_n dX3_buildRight_57 rfl ?_
    refine wt_getI dX3_buildRight_58 FX3_139 q2.1 ?_
    try rw [jp]
    rw [q4]
    refine wa_aload_n dX3_buildRight_61 rfl ?_
    refine wt_getI dX3_buildRight_62 FX3_144 q2.1 ?_
    try rw [jp]
    rw [q3]
    refine wa_aload_n dX3_buildRight_65 rfl ?_
    refine wa_iload_n dX3_buildRight_66 rfl ?_
    refine wa_iconst dX3_buildRight_67 ?_
    refine wa_callVf (ci := 1) dX3_buildRight_68 KX1_tell LX3_92 ⟨_, _, rfl, by decide⟩ hfo (c_tell hf jf hcm k 4 hk (by omega) d0 d1 d2 d3 d4 d5 e1) (by decide) rfl rfl (Nat.le_of_ble_eq_true rfl) rfl rfl ?_
    refine wa_callV (ci := 0) dX3_buildRight_71 KX0_build LX3_145 ⟨_, _, rfl, by decide⟩ o140 (hbl) (by decide) rfl (Nat.le_of_ble_eq_true rfl) rfl rfl (fun r h' hq => ?_)
    obtain ⟨I', rfl, hb, hq⟩ := hq
    have hfr : BrFr I I' := fun a a1 a2 a3 a4 a5 a6 a7 a8 => by rw [hb a a1 a2 a3 a4 a5 a6 a8]; exact gJ a a7
    cases hres : bdF (I (p + 1)) (I (p + 2)) (I (p + 3)) (ltOf n (I 7) x y z) g (sz - lf) lf (tsOf I n) (I 142) with
    | none =>
      simp only [hres] at hq ⊢
      obtain ⟨rfl, h2, h3⟩ := hq
      refine wa_ireturn dX3_buildRight_74 rfl ?_
      exact ⟨I', rfl, hfr, rfl, h2, fun a a1 a2 t ht => by rw [h3 a a1 a2 t ht, gJ a (by omega)]⟩
    | some Xm =>
      obtain ⟨X, md⟩ := Xm
      simp only [hres] at hq ⊢
      obtain ⟨rfl, h2, h3, h4⟩ := hq
      refine wa_ireturn dX3_buildRight_74 rfl ?_
      exact ⟨I', rfl, hfr, rfl, h2, h3⟩
  refine wa_iconst dX3_buildRight_0 ?_
  refine wa_istore_n dX3_buildRight_1 (by decide) ?_
  have lp := loop 3 0 (I 141) (by omega) (fun a ha => by omega) (fun lt' hlt' => ?_)
  · rw [vup_self] at lp; exact lp
  · exact tail lt' hlt'
end S31
