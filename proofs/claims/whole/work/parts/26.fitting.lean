/-! ===== 26: Search.stands (contract), fitting, note ===== -/
section S26
variable {S : tmS} {I : Nat → Nat → Int} {L : Nat → Nat → Int64}
/-- a rule at p: size sz, LEFT's nodes lf -/
def RuleW (S : tmS) (I : Nat → Nat → Int) (p sz lf : Nat) : Prop := 192 ≤ p ∧ LPat S p sz ∧ I p 0 = (sz : Int) ∧ I p 1 = (lf : Int) ∧ 1 ≤ lf ∧ lf < sz ∧ sz ≤ 120 ∧ WFN sz (I (p + 1)) (I (p + 2)) (I (p + 3)) ∧ WFS sz (I (p + 1)) (I (p + 2)) (I (p + 3)) (I (p + 4)) ∧ I (p + 1) (lf - 1) < 7 ∧ ∀ j, j + 1 < lf → ∃ i, i < lf ∧ (I (p + 2) i = (j : Int) ∨ I (p + 3) i = (j : Int))
theorem WFN.le {m m' : Nat} {sg on ot : Nat → Int} (h : WFN m sg on ot) (hm : m' ≤ m) : WFN m' sg on ot := fun i hi => h i (by omega)
theorem WFS.le {m m' : Nat} {sg on ot st : Nat → Int} (h : WFS m sg on ot st) (hm : m' ≤ m) : WFS m' sg on ot st := fun i hi => h i (by omega)
set_option maxRecDepth 20000 in
theorem c_stands (hL : LX S) {p sz lf : Nat} (hr : RuleW S I p sz lf) (s : Int) (hs : 0 ≤ s ∧ s ≤ 3) (hv : VOK lf (I 134) (I (p + 1)) (I (p + 2)) (I (p + 3)) (I (p + 4)) (I 148) (I 147) (s - 1)) : tmC yX4_stands kX4_stands 3 0 0 [tR 143, tR p, tI s] (S, I, L) (StdPost S I L p lf s) := by
  refine tmC.mk (lv := [some (tR 143), some (tR p), some (tI s), none, none]) 2 ⟨rfl, by decide +kernel, by decide⟩ rfl rfl ?_
  obtain ⟨h1, h2, h3, h4, h5, h6, h7, h8, h9, h10, h11⟩ := hr
  refine wt_ir (fun hI => ?_)
  refine wa_iconst dX4_stands_0 ?_
  refine wa_istore_n dX4_stands_1 (by decide) ?_
  have lp := stands_loop (L := L) hL h2 h4 (by omega) h7 h1 (h8.le (by omega)) (h9.le (by omega)) (fun K _ => hI _ _) s hs lf 0 (I 147) none (by omega) (fun _ _ => rfl) (fun j hj hjs => hv j hj (by omega))
  rw [vup_self] at lp
  exact lp
/-- the mask that firstsFor, secondsFor answer -/
def fsM (L : Nat → Nat → Int64) (s k : Int) : Int64 := if 0 ≤ k ∧ k < 50 then L 137 k.toNat else if 0 ≤ s ∧ s < 7 then L 136 s.toNat else 0
def ssM (L : Nat → Nat → Int64) (k : Int) : Int64 := if 0 ≤ k ∧ k < 50 then L 138 k.toNat else L 133 4
def knV (sz : Nat) (st v : Nat → Int) (l x : Int) : Int := if tmStageOf sz st x ≤ l then svOf v 120 (-1) x else -1
def isLt (sz : Nat) (sg : Nat → Int) (x l : Int) : Prop := 0 ≤ x ∧ x < sz ∧ sg x.toNat = 7 + l
/-- a CLASS c for the LETTER l passes what node i asks for -/
def FitP (sz : Nat) (sg on ot st v : Nat → Int) (L : Nat → Nat → Int64) (l : Int) (i c : Nat) : Prop :=
  (isLt sz sg (on i) l → bit (fsM L (sg i) (knV sz st v l (ot i))) c = true) ∧ (isLt sz sg (ot i) l → bit (ssM L (knV sz st v l (on i))) c = true)
set_option maxRecDepth 20000 in
set_option maxHeartbeats 2000000 in
theorem fitting_loop (hL : LX S) {p sz lf : Nat} (hr : RuleW S I p sz lf) (l : Int) (hl : 0 ≤ l ∧ l < 3) : ∀ (k i : Nat) (fit : Int64), i + k = lf → (∀ c, c < 64 → (bit fit c = true ↔ ∀ j, j < i → FitP sz (I (p + 1)) (I (p + 2)) (I (p + 3)) (I (p + 4)) (I 147) L l j c)) →
    tmW kX4_fitting 3 0 0 7 [some (tR 143), some (tR p), some (tI l), some (tL fit), none, some (tI i)] [] (S, I, L) (fun r h' => h' = (S, I, L) ∧ ∃ fit', r = some (tL fit') ∧ ∀ c, c < 64 → (bit fit' c = true ↔ ∀ j, j < lf → FitP sz (I (p + 1)) (I (p + 2)) (I (p + 3)) (I (p + 4)) (I 147) L l j c)) := by
  intro k
  have o143 := oX143 hL
  have r143_0 := rX143_0 hL
  have r143_1 := rX143_1 hL
  have r143_2 := rX143_2 hL
  have r143_4 := rX143_4 hL
  have r143_5 := rX143_5 hL
  have r143_6 := rX143_6 hL
  have o133 := oX133 hL
  have r133_0 := rX133_0 hL
  have r133_1 := rX133_1 hL
  have r133_3 := rX133_3 hL
  have r133_5 := rX133_5 hL
  have r133_6 := rX133_6 hL
  have r133_7 := rX133_7 hL
  have hr0 := hr
  obtain ⟨h1, h2, h3, h4, h5, h6, h7, h8, h9, h10, h11⟩ := hr
  have h2' := h2
  obtain ⟨a0, a1, a2, a3, a4, b1', b2', b3', b4'⟩ := h2
  induction k with
  | zero =>
    intro i fit hi hb
    refine wt_ir (fun hI => ?_)
    refine wa_iload dX4_fitting_7 rfl ?_
    refine wa_aload_n dX4_fitting_9 rfl ?_
    refine wt_getI dX4_fitting_10 FX4_68 (by assumption) ?_
    refine wa_icmp_ge 105 dX4_fitting_13 (by decide) (by first | exact hI _ _ | exact ⟨by omega, by omega⟩ | assumption) (by first | exact hI _ _ | exact ⟨by omega, by omega⟩ | assumption) (fun c_13 => ?_) (fun c_13 => ?_)
    · refine wa_lload_n dX4_fitting_105 rfl ?_
      refine wa_lreturn dX4_fitting_106 rfl ?_
      refine ⟨rfl, fit, rfl, ?_⟩
      rw [show lf = i by omega]
      exact hb
    · omega
  | succ k ih =>
    intro i fit hi hb
    refine wt_ir (fun hI => ?_)
    have w := h8 i (by omega)
    have kr : ∀ x, inR (knV sz (I (p + 4)) (I 147) l x) := by intro x; unfold knV svOf; split; (split; exact hI _ _; exact ⟨by omega, by omega⟩); exact ⟨by omega, by omega⟩
    have step : ∀ (f1 f2 : Int64), (∀ c, c < 64 → (bit f2 c = true ↔ bit fit c = true ∧ FitP sz (I (p + 1)) (I (p + 2)) (I (p + 3)) (I (p + 4)) (I 147) L l i c)) → tmW kX4_fitting 3 0 0 7 [some (tR 143), some (tR p), some (tI l), some (tL f2), none, some (tI ((i + 1 : Nat) : Int))] [] (S, I, L) (fun r h' => h' = (S, I, L) ∧ ∃ fit', r = some (tL fit') ∧ ∀ c, c < 64 → (bit fit' c = true ↔ ∀ j, j < lf → FitP sz (I (p + 1)) (I (p + 2)) (I (p + 3)) (I (p + 4)) (I 147) L l j c)) := by
      intro _ f2 h
      refine ih (i + 1) f2 (by omega) (fun c hc => ?_)
      rw [h c hc, hb c hc]
      constructor
      · rintro ⟨x, y⟩ j hj
        by_cases e : j = i
        · subst e; exact y
        · exact x j (by omega)
      · intro x
        exact ⟨fun j hj => x j (by omega), x i (by omega)⟩
    by_cases q1 : isLt sz (I (p + 1)) (I (p + 2) i) l
    · have q1' : 0 ≤ I (p + 2) i ∧ I (p + 2) i < sz ∧ I (p + 1) (I (p + 2) i).toNat = 7 + l := q1
      by_cases q2 : isLt sz (I (p + 1)) (I (p + 3) i) l
      · have q2' : 0 ≤ I (p + 3) i ∧ I (p + 3) i < sz ∧ I (p + 1) (I (p + 3) i).toNat = 7 + l := q2
        refine wa_iload dX4_fitting_7 rfl ?_
        refine wa_aload_n dX4_fitting_9 rfl ?_
        refine wt_getI dX4_fitting_10 FX4_68 (by assumption) ?_
        refine wa_icmp_ge 105 dX4_fitting_13 (by decide) (by first | exact hI _ _ | exact ⟨by omega, by omega⟩ | assumption) (by first | exact hI _ _ | exact ⟨by omega, by omega⟩ | assumption) (fun c_13 => ?_) (fun c_13 => ?_)
        · omega
        · refine wa_aload_n dX4_fitting_16 rfl ?_
          refine wa_aload_n dX4_fitting_17 rfl ?_
          refine wt_getR dX4_fitting_18 FX4_115 (by assumption) (by assumption) ?_
          refine wa_iload dX4_fitting_21 rfl ?_
          refine wt_iald _ dX4_fitting_23 (by assumption) rfl (by omega) ?_
          refine wa_iload_n dX4_fitting_24 rfl ?_
          refine wa_callVf (ci := 2) dX4_fitting_25 KX2_isLetter LX4_118 ⟨_, _, rfl, by decide⟩ a0 (by have := c_isLetter (L := L) h2' h3 (by omega) (I (p + 2) i) l (hI _ _) hl; rw [if_pos q1'] at this; exact this) (by decide) rfl rfl (Nat.le_of_ble_eq_true rfl) rfl rfl ?_
          refine wa_if_eq 61 dX4_fitting_28 (by decide) (by first | exact hI _ _ | exact ⟨by omega, by omega⟩ | assumption) (fun c_28 => ?_) (fun c_28 => ?_)
          · omega
          · refine wa_lload_n dX4_fitting_31 rfl ?_
            refine wa_aload_n dX4_fitting_32 rfl ?_
            refine wt_getR dX4_fitting_33 FX4_38 (by assumption) (by assumption) ?_
            refine wa_aload_n dX4_fitting_36 rfl ?_
            refine wt_getR dX4_fitting_37 FX4_122 (by assumption) (by assumption) ?_
            refine wa_iload dX4_fitting_40 rfl ?_
            refine wt_iald _ dX4_fitting_42 (by assumption) rfl (by omega) ?_
            refine wa_aload_n dX4_fitting_43 rfl ?_
            refine wa_aload_n dX4_fitting_44 rfl ?_
            refine wa_aload_n dX4_fitting_45 rfl ?_
            refine wt_getR dX4_fitting_46 FX4_125 (by assumption) (by assumption) ?_
            refine wa_iload dX4_fitting_49 rfl ?_
            refine wt_iald _ dX4_fitting_51 (by assumption) rfl (by omega) ?_
            refine wa_iload_n dX4_fitting_52 rfl ?_
            refine wa_callVf (ci := 4) dX4_fitting_53 KX4_knownValue LX4_128 ⟨_, _, rfl, by decide⟩ o143 (c_knownValue hL h2' h3 (by omega) (I (p + 3) i) l (hI _ _) ⟨by omega, by omega⟩) (by decide) rfl rfl (Nat.le_of_ble_eq_true rfl) rfl rfl ?_
            refine wa_callVf (ci := 5) dX4_fitting_56 KX5_firstsFor LX4_132 ⟨_, _, rfl, by decide⟩ o133 (c_firstsFor hL (I (p + 1) i) (knV sz (I (p + 4)) (I 147) l (I (p + 3) i)) (hI _ _) (kr _)) (by decide) rfl rfl (Nat.le_of_ble_eq_true rfl) rfl rfl ?_
            refine wa_land dX4_fitting_59 ?_
            refine wa_lstore_n dX4_fitting_60 (by decide) ?_
            refine wa_aload_n dX4_fitting_61 rfl ?_
            refine wa_aload_n dX4_fitting_62 rfl ?_
            refine wt_getR dX4_fitting_63 FX4_125 (by assumption) (by assumption) ?_
            refine wa_iload dX4_fitting_66 rfl ?_
            refine wt_iald _ dX4_fitting_68 (by assumption) rfl (by omega) ?_
            refine wa_iload_n dX4_fitting_69 rfl ?_
            refine wa_callVf (ci := 2) dX4_fitting_70 KX2_isLetter LX4_118 ⟨_, _, rfl, by decide⟩ a0 (by have := c_isLetter (L := L) h2' h3 (by omega) (I (p + 3) i) l (hI _ _) hl; rw [if_pos q2'] at this; exact this) (by decide) rfl rfl (Nat.le_of_ble_eq_true rfl) rfl rfl ?_
            refine wa_if_eq 99 dX4_fitting_73 (by decide) (by first | exact hI _ _ | exact ⟨by omega, by omega⟩ | assumption) (fun c_73 => ?_) (fun c_73 => ?_)
            · omega
            · refine wa_lload_n dX4_fitting_76 rfl ?_
              refine wa_aload_n dX4_fitting_77 rfl ?_
              refine wt_getR dX4_fitting_78 FX4_38 (by assumption) (by assumption) ?_
              refine wa_aload_n dX4_fitting_81 rfl ?_
              refine wa_aload_n dX4_fitting_82 rfl ?_
              refine wa_aload_n dX4_fitting_83 rfl ?_
              refine wt_getR dX4_fitting_84 FX4_115 (by assumption) (by assumption) ?_
              refine wa_iload dX4_fitting_87 rfl ?_
              refine wt_iald _ dX4_fitting_89 (by assumption) rfl (by omega) ?_
              refine wa_iload_n dX4_fitting_90 rfl ?_
              refine wa_callVf (ci := 4) dX4_fitting_91 KX4_knownValue LX4_128 ⟨_, _, rfl, by decide⟩ o143 (c_knownValue hL h2' h3 (by omega) (I (p + 2) i) l (hI _ _) ⟨by omega, by omega⟩) (by decide) rfl rfl (Nat.le_of_ble_eq_true rfl) rfl rfl ?_
              refine wa_callVf (ci := 5) dX4_fitting_94 KX5_secondsFor LX4_136 ⟨_, _, rfl, by decide⟩ o133 (c_secondsFor hL (knV sz (I (p + 4)) (I 147) l (I (p + 2) i)) (kr _)) (by decide) rfl rfl (Nat.le_of_ble_eq_true rfl) rfl rfl ?_
              refine wa_land dX4_fitting_97 ?_
              refine wa_lstore_n dX4_fitting_98 (by decide) ?_
              refine wa_iinc dX4_fitting_99 rfl (by decide) ?_
              refine wa_goto 7 dX4_fitting_102 (by decide) ?_
              refine step fit _ (fun c hc => ?_)
              rw [bit_and, bit_and, Bool.and_eq_true, Bool.and_eq_true]
              exact ⟨fun z => ⟨z.1.1, fun _ => z.1.2, fun _ => z.2⟩, fun z => ⟨⟨z.1, z.2.1 q1⟩, z.2.2 q2⟩⟩
      · have q2' : ¬ (0 ≤ I (p + 3) i ∧ I (p + 3) i < sz ∧ I (p + 1) (I (p + 3) i).toNat = 7 + l) := q2
        refine wa_iload dX4_fitting_7 rfl ?_
        refine wa_aload_n dX4_fitting_9 rfl ?_
        refine wt_getI dX4_fitting_10 FX4_68 (by assumption) ?_
        refine wa_icmp_ge 105 dX4_fitting_13 (by decide) (by first | exact hI _ _ | exact ⟨by omega, by omega⟩ | assumption) (by first | exact hI _ _ | exact ⟨by omega, by omega⟩ | assumption) (fun c_13 => ?_) (fun c_13 => ?_)
        · omega
        · refine wa_aload_n dX4_fitting_16 rfl ?_
          refine wa_aload_n dX4_fitting_17 rfl ?_
          refine wt_getR dX4_fitting_18 FX4_115 (by assumption) (by assumption) ?_
          refine wa_iload dX4_fitting_21 rfl ?_
          refine wt_iald _ dX4_fitting_23 (by assumption) rfl (by omega) ?_
          refine wa_iload_n dX4_fitting_24 rfl ?_
          refine wa_callVf (ci := 2) dX4_fitting_25 KX2_isLetter LX4_118 ⟨_, _, rfl, by decide⟩ a0 (by have := c_isLetter (L := L) h2' h3 (by omega) (I (p + 2) i) l (hI _ _) hl; rw [if_pos q1'] at this; exact this) (by decide) rfl rfl (Nat.le_of_ble_eq_true rfl) rfl rfl ?_
          refine wa_if_eq 61 dX4_fitting_28 (by decide) (by first | exact hI _ _ | exact ⟨by omega, by omega⟩ | assumption) (fun c_28 => ?_) (fun c_28 => ?_)
          · omega
          · refine wa_lload_n dX4_fitting_31 rfl ?_
            refine wa_aload_n dX4_fitting_32 rfl ?_
            refine wt_getR dX4_fitting_33 FX4_38 (by assumption) (by assumption) ?_
            refine wa_aload_n dX4_fitting_36 rfl ?_
            refine wt_getR dX4_fitting_37 FX4_122 (by assumption) (by assumption) ?_
            refine wa_iload dX4_fitting_40 rfl ?_
            refine wt_iald _ dX4_fitting_42 (by assumption) rfl (by omega) ?_
            refine wa_aload_n dX4_fitting_43 rfl ?_
            refine wa_aload_n dX4_fitting_44 rfl ?_
            refine wa_aload_n dX4_fitting_45 rfl ?_
            refine wt_getR dX4_fitting_46 FX4_125 (by assumption) (by assumption) ?_
            refine wa_iload dX4_fitting_49 rfl ?_
            refine wt_iald _ dX4_fitting_51 (by assumption) rfl (by omega) ?_
            refine wa_iload_n dX4_fitting_52 rfl ?_
            refine wa_callVf (ci := 4) dX4_fitting_53 KX4_knownValue LX4_128 ⟨_, _, rfl, by decide⟩ o143 (c_knownValue hL h2' h3 (by omega) (I (p + 3) i) l (hI _ _) ⟨by omega, by omega⟩) (by decide) rfl rfl (Nat.le_of_ble_eq_true rfl) rfl rfl ?_
            refine wa_callVf (ci := 5) dX4_fitting_56 KX5_firstsFor LX4_132 ⟨_, _, rfl, by decide⟩ o133 (c_firstsFor hL (I (p + 1) i) (knV sz (I (p + 4)) (I 147) l (I (p + 3) i)) (hI _ _) (kr _)) (by decide) rfl rfl (Nat.le_of_ble_eq_true rfl) rfl rfl ?_
            refine wa_land dX4_fitting_59 ?_
            refine wa_lstore_n dX4_fitting_60 (by decide) ?_
            refine wa_aload_n dX4_fitting_61 rfl ?_
            refine wa_aload_n dX4_fitting_62 rfl ?_
            refine wt_getR dX4_fitting_63 FX4_125 (by assumption) (by assumption) ?_
            refine wa_iload dX4_fitting_66 rfl ?_
            refine wt_iald _ dX4_fitting_68 (by assumption) rfl (by omega) ?_
            refine wa_iload_n dX4_fitting_69 rfl ?_
            refine wa_callVf (ci := 2) dX4_fitting_70 KX2_isLetter LX4_118 ⟨_, _, rfl, by decide⟩ a0 (by have := c_isLetter (L := L) h2' h3 (by omega) (I (p + 3) i) l (hI _ _) hl; rw [if_neg q2'] at this; exact this) (by decide) rfl rfl (Nat.le_of_ble_eq_true rfl) rfl rfl ?_
            refine wa_if_eq 99 dX4_fitting_73 (by decide) (by first | exact hI _ _ | exact ⟨by omega, by omega⟩ | assumption) (fun c_73 => ?_) (fun c_73 => ?_)
            · refine wa_iinc dX4_fitting_99 rfl (by decide) ?_
              refine wa_goto 7 dX4_fitting_102 (by decide) ?_
              refine step fit _ (fun c hc => ?_)
              rw [bit_and, Bool.and_eq_true]
              exact ⟨fun z => ⟨z.1, fun _ => z.2, fun y => absurd y q2⟩, fun z => ⟨z.1, z.2.1 q1⟩⟩
            · omega
    · have q1' : ¬ (0 ≤ I (p + 2) i ∧ I (p + 2) i < sz ∧ I (p + 1) (I (p + 2) i).toNat = 7 + l) := q1
      by_cases q2 : isLt sz (I (p + 1)) (I (p + 3) i) l
      · have q2' : 0 ≤ I (p + 3) i ∧ I (p + 3) i < sz ∧ I (p + 1) (I (p + 3) i).toNat = 7 + l := q2
        refine wa_iload dX4_fitting_7 rfl ?_
        refine wa_aload_n dX4_fitting_9 rfl ?_
        refine wt_getI dX4_fitting_10 FX4_68 (by assumption) ?_
        refine wa_icmp_ge 105 dX4_fitting_13 (by decide) (by first | exact hI _ _ | exact ⟨by omega, by omega⟩ | assumption) (by first | exact hI _ _ | exact ⟨by omega, by omega⟩ | assumption) (fun c_13 => ?_) (fun c_13 => ?_)
        · omega
        · refine wa_aload_n dX4_fitting_16 rfl ?_
          refine wa_aload_n dX4_fitting_17 rfl ?_
          refine wt_getR dX4_fitting_18 FX4_115 (by assumption) (by assumption) ?_
          refine wa_iload dX4_fitting_21 rfl ?_
          refine wt_iald _ dX4_fitting_23 (by assumption) rfl (by omega) ?_
          refine wa_iload_n dX4_fitting_24 rfl ?_
          refine wa_callVf (ci := 2) dX4_fitting_25 KX2_isLetter LX4_118 ⟨_, _, rfl, by decide⟩ a0 (by have := c_isLetter (L := L) h2' h3 (by omega) (I (p + 2) i) l (hI _ _) hl; rw [if_neg q1'] at this; exact this) (by decide) rfl rfl (Nat.le_of_ble_eq_true rfl) rfl rfl ?_
          refine wa_if_eq 61 dX4_fitting_28 (by decide) (by first | exact hI _ _ | exact ⟨by omega, by omega⟩ | assumption) (fun c_28 => ?_) (fun c_28 => ?_)
          · refine wa_aload_n dX4_fitting_61 rfl ?_
            refine wa_aload_n dX4_fitting_62 rfl ?_
            refine wt_getR dX4_fitting_63 FX4_125 (by assumption) (by assumption) ?_
            refine wa_iload dX4_fitting_66 rfl ?_
            refine wt_iald _ dX4_fitting_68 (by assumption) rfl (by omega) ?_
            refine wa_iload_n dX4_fitting_69 rfl ?_
            refine wa_callVf (ci := 2) dX4_fitting_70 KX2_isLetter LX4_118 ⟨_, _, rfl, by decide⟩ a0 (by have := c_isLetter (L := L) h2' h3 (by omega) (I (p + 3) i) l (hI _ _) hl; rw [if_pos q2'] at this; exact this) (by decide) rfl rfl (Nat.le_of_ble_eq_true rfl) rfl rfl ?_
            refine wa_if_eq 99 dX4_fitting_73 (by decide) (by first | exact hI _ _ | exact ⟨by omega, by omega⟩ | assumption) (fun c_73 => ?_) (fun c_73 => ?_)
            · omega
            · refine wa_lload_n dX4_fitting_76 rfl ?_
              refine wa_aload_n dX4_fitting_77 rfl ?_
              refine wt_getR dX4_fitting_78 FX4_38 (by assumption) (by assumption) ?_
              refine wa_aload_n dX4_fitting_81 rfl ?_
              refine wa_aload_n dX4_fitting_82 rfl ?_
              refine wa_aload_n dX4_fitting_83 rfl ?_
              refine wt_getR dX4_fitting_84 FX4_115 (by assumption) (by assumption) ?_
              refine wa_iload dX4_fitting_87 rfl ?_
              refine wt_iald _ dX4_fitting_89 (by assumption) rfl (by omega) ?_
              refine wa_iload_n dX4_fitting_90 rfl ?_
              refine wa_callVf (ci := 4) dX4_fitting_91 KX4_knownValue LX4_128 ⟨_, _, rfl, by decide⟩ o143 (c_knownValue hL h2' h3 (by omega) (I (p + 2) i) l (hI _ _) ⟨by omega, by omega⟩) (by decide) rfl rfl (Nat.le_of_ble_eq_true rfl) rfl rfl ?_
              refine wa_callVf (ci := 5) dX4_fitting_94 KX5_secondsFor LX4_136 ⟨_, _, rfl, by decide⟩ o133 (c_secondsFor hL (knV sz (I (p + 4)) (I 147) l (I (p + 2) i)) (kr _)) (by decide) rfl rfl (Nat.le_of_ble_eq_true rfl) rfl rfl ?_
              refine wa_land dX4_fitting_97 ?_
              refine wa_lstore_n dX4_fitting_98 (by decide) ?_
              refine wa_iinc dX4_fitting_99 rfl (by decide) ?_
              refine wa_goto 7 dX4_fitting_102 (by decide) ?_
              refine step fit _ (fun c hc => ?_)
              rw [bit_and, Bool.and_eq_true]
              exact ⟨fun z => ⟨z.1, fun y => absurd y q1, fun _ => z.2⟩, fun z => ⟨z.1, z.2.2 q2⟩⟩
          · omega
      · have q2' : ¬ (0 ≤ I (p + 3) i ∧ I (p + 3) i < sz ∧ I (p + 1) (I (p + 3) i).toNat = 7 + l) := q2
        refine wa_iload dX4_fitting_7 rfl ?_
        refine wa_aload_n dX4_fitting_9 rfl ?_
        refine wt_getI dX4_fitting_10 FX4_68 (by assumption) ?_
        refine wa_icmp_ge 105 dX4_fitting_13 (by decide) (by first | exact hI _ _ | exact ⟨by omega, by omega⟩ | assumption) (by first | exact hI _ _ | exact ⟨by omega, by omega⟩ | assumption) (fun c_13 => ?_) (fun c_13 => ?_)
        · omega
        · refine wa_aload_n dX4_fitting_16 rfl ?_
          refine wa_aload_n dX4_fitting_17 rfl ?_
          refine wt_getR dX4_fitting_18 FX4_115 (by assumption) (by assumption) ?_
          refine wa_iload dX4_fitting_21 rfl ?_
          refine wt_iald _ dX4_fitting_23 (by assumption) rfl (by omega) ?_
          refine wa_iload_n dX4_fitting_24 rfl ?_
          refine wa_callVf (ci := 2) dX4_fitting_25 KX2_isLetter LX4_118 ⟨_, _, rfl, by decide⟩ a0 (by have := c_isLetter (L := L) h2' h3 (by omega) (I (p + 2) i) l (hI _ _) hl; rw [if_neg q1'] at this; exact this) (by decide) rfl rfl (Nat.le_of_ble_eq_true rfl) rfl rfl ?_
          refine wa_if_eq 61 dX4_fitting_28 (by decide) (by first | exact hI _ _ | exact ⟨by omega, by omega⟩ | assumption) (fun c_28 => ?_) (fun c_28 => ?_)
          · refine wa_aload_n dX4_fitting_61 rfl ?_
            refine wa_aload_n dX4_fitting_62 rfl ?_
            refine wt_getR dX4_fitting_63 FX4_125 (by assumption) (by assumption) ?_
            refine wa_iload dX4_fitting_66 rfl ?_
            refine wt_iald _ dX4_fitting_68 (by assumption) rfl (by omega) ?_
            refine wa_iload_n dX4_fitting_69 rfl ?_
            refine wa_callVf (ci := 2) dX4_fitting_70 KX2_isLetter LX4_118 ⟨_, _, rfl, by decide⟩ a0 (by have := c_isLetter (L := L) h2' h3 (by omega) (I (p + 3) i) l (hI _ _) hl; rw [if_neg q2'] at this; exact this) (by decide) rfl rfl (Nat.le_of_ble_eq_true rfl) rfl rfl ?_
            refine wa_if_eq 99 dX4_fitting_73 (by decide) (by first | exact hI _ _ | exact ⟨by omega, by omega⟩ | assumption) (fun c_73 => ?_) (fun c_73 => ?_)
            · refine wa_iinc dX4_fitting_99 rfl (by decide) ?_
              refine wa_goto 7 dX4_fitting_102 (by decide) ?_
              refine step fit _ (fun c hc => ?_)
              exact ⟨fun z => ⟨z, fun y => absurd y q1, fun y => absurd y q2⟩, fun z => z.1⟩
            · omega
          · omega
set_option maxRecDepth 20000 in
theorem c_fitting (hL : LX S) {p sz lf : Nat} (hr : RuleW S I p sz lf) (l : Int) (hl : 0 ≤ l ∧ l < 3) : tmC yX4_fitting kX4_fitting 3 0 0 [tR 143, tR p, tI l] (S, I, L) (fun r h' => h' = (S, I, L) ∧ ∃ fit', r = some (tL fit') ∧ ∀ c, c < 64 → (bit fit' c = true ↔ ∀ j, j < lf → FitP sz (I (p + 1)) (I (p + 2)) (I (p + 3)) (I (p + 4)) (I 147) L l j c)) := by
  refine tmC.mk (lv := [some (tR 143), some (tR p), some (tI l), none, none, none]) 3 ⟨rfl, by decide +kernel, by decide⟩ rfl rfl ?_
  refine wa_ldc2 dX4_fitting_0 QX4_113 ?_
  refine wa_lstore_n dX4_fitting_3 (by decide) ?_
  refine wa_iconst dX4_fitting_4 ?_
  refine wa_istore dX4_fitting_5 (by decide) ?_
  exact fitting_loop hL hr l hl lf 0 (-1) (by omega) (fun c hc => ⟨fun _ j hj => by omega, fun _ => bit_m1 c hc⟩)
/-- 1 less than the GENERATION of a FINDING -/
def gen3 (ls : Nat → Int) (pl : Int) (ch : Nat → Int) : Nat → Nat → Int → Int
  | 0, _, g => g
  | k + 1, l, g => gen3 ls pl ch k (l + 1) (if g < svOf ls 50 0 (ch l) then svOf ls 50 0 (ch l) else g)
set_option maxRecDepth 20000 in
theorem note_loop (hL : LX S) {p : Nat} (pl : Int) (Q : Option tmV → tmH → Prop) : ∀ (k l : Nat) (g : Int), l + k = 3 → inR g →
    (inR (gen3 (I 146) pl (I 148) k l g) → tmW kX4_note 3 0 0 48 [some (tR 143), some (tR p), some (tI pl), some (tI (gen3 (I 146) pl (I 148) k l g)), some (tI 3)] [] (S, I, L) Q) →
    tmW kX4_note 3 0 0 20 [some (tR 143), some (tR p), some (tI pl), some (tI g), some (tI l)] [] (S, I, L) Q := by
  intro k
  have o143 := oX143 hL
  have r143_0 := rX143_0 hL
  have r143_1 := rX143_1 hL
  have r143_2 := rX143_2 hL
  have r143_4 := rX143_4 hL
  have r143_5 := rX143_5 hL
  have r143_6 := rX143_6 hL
  have o148 := oX148 hL
  induction k with
  | zero =>
    intro l g hl hg kk
    obtain rfl : l = 3 := by omega
    refine wa_iload dX4_note_20 rfl ?_
    refine wa_iconst dX4_note_22 ?_
    refine wa_icmp_ge 48 dX4_note_23 (by decide) (by exact ⟨by omega, by omega⟩) (by exact ⟨by omega, by omega⟩) (fun c_23 => ?_) (fun c_23 => ?_)
    · exact kk hg
    · omega
  | succ k ih =>
    intro l g hl hg kk
    refine wt_ir (fun hI => ?_)
    have hs : inR (svOf (I 146) 50 0 (I 148 l)) := by unfold svOf; split; exact hI _ _; exact ⟨by omega, by omega⟩
    have nx := ih (l + 1) (if g < svOf (I 146) 50 0 (I 148 l) then svOf (I 146) 50 0 (I 148 l) else g) (by omega) (by split; exact hs; exact hg) kk
    refine wa_iload dX4_note_20 rfl ?_
    refine wa_iconst dX4_note_22 ?_
    refine wa_icmp_ge 48 dX4_note_23 (by decide) (by exact ⟨by omega, by omega⟩) (by exact ⟨by omega, by omega⟩) (fun c_23 => ?_) (fun c_23 => ?_)
    · omega
    · refine wa_iload_n dX4_note_26 rfl ?_
      refine wa_aload_n dX4_note_27 rfl ?_
      refine wa_aload_n dX4_note_28 rfl ?_
      refine wt_getR dX4_note_29 FX4_31 (by assumption) (by assumption) ?_
      refine wa_iload dX4_note_32 rfl ?_
      refine wt_iald _ dX4_note_34 (by assumption) rfl (by omega) ?_
      refine wa_callVf (ci := 4) dX4_note_35 KX4_leastOf LX4_160 ⟨_, _, rfl, by decide⟩ o143 (c_leastOf hL (I 148 l) (hI _ _)) (by decide) rfl rfl (Nat.le_of_ble_eq_true rfl) rfl rfl ?_
      refine wa_max dX4_note_38 LX4_163 (by decide) (Nat.le_of_ble_eq_true rfl) (by assumption) (by assumption) ?_
      refine wa_istore_n dX4_note_41 (by decide) ?_
      refine wa_iinc dX4_note_42 rfl (by decide) ?_
      refine wa_goto 20 dX4_note_45 (by decide) ?_
      exact nx
set_option maxRecDepth 20000 in
theorem note_tail (hL : LX S) (hf : LFin S 144 200) {p : Nat} {k : Nat} (hk : I 144 1 = (k : Int)) (hk2 : k < 200) (r : Int) (hr : I 143 3 = r) {pl g : Int} {x : Option tmV} (d0 : isDg r) (d1 : isDg (I 148 0)) (d2 : isDg (I 148 1)) (d3 : isDg (I 148 2)) (d4 : isDg pl) (d5 : isDg (g + 1)) :
    tmW kX4_note 3 0 0 48 [some (tR 143), some (tR p), some (tI pl), some (tI g), x] [] (S, I, L) (tmF none (S, va_up I 144 (va_up (I 144) 1 (k + 1 : Nat)), va_up L 145 (va_up (L 145) k (tmPk r (I 148 0) (I 148 1) (I 148 2) pl (g + 1))))) := by
  have o143 := oX143 hL
  have r143_0 := rX143_0 hL
  have r143_1 := rX143_1 hL
  have r143_2 := rX143_2 hL
  have r143_4 := rX143_4 hL
  have r143_5 := rX143_5 hL
  have r143_6 := rX143_6 hL
  have o144 := oX144 hL
  have r144_0 := rX144_0 hL
  have o148 := oX148 hL
  refine wa_aload_n dX4_note_48 rfl ?_
  refine wt_getR dX4_note_49 FX4_14 (by assumption) (by assumption) ?_
  refine wa_aload_n dX4_note_52 rfl ?_
  refine wt_getI dX4_note_53 FX4_20 (by assumption) ?_
  refine wa_aload_n dX4_note_56 rfl ?_
  refine wt_getR dX4_note_57 FX4_31 (by assumption) (by assumption) ?_
  refine wa_iconst dX4_note_60 ?_
  refine wt_iald 0 dX4_note_61 (by assumption) rfl (by omega) ?_
  refine wa_aload_n dX4_note_62 rfl ?_
  refine wt_getR dX4_note_63 FX4_31 (by assumption) (by assumption) ?_
  refine wa_iconst dX4_note_66 ?_
  refine wt_iald 1 dX4_note_67 (by assumption) rfl (by omega) ?_
  refine wa_aload_n dX4_note_68 rfl ?_
  refine wt_getR dX4_note_69 FX4_31 (by assumption) (by assumption) ?_
  refine wa_iconst dX4_note_72 ?_
  refine wt_iald 2 dX4_note_73 (by assumption) rfl (by omega) ?_
  refine wa_iload_n dX4_note_74 rfl ?_
  refine wa_iload_n dX4_note_75 rfl ?_
  refine wa_iconst dX4_note_76 ?_
  refine wa_iadd dX4_note_77 ?_
  refine wa_callVf (ci := 1) dX4_note_78 KX1_add LX4_166 ⟨_, _, rfl, by decide⟩ o144 (by have := c_Fadd (L := L) hf hk hk2 r (I 148 0) (I 148 1) (I 148 2) pl (g + 1) d0 d1 d2 d3 d4 d5; rw [← hr] at this; exact this) (by decide) rfl rfl (Nat.le_of_ble_eq_true rfl) rfl rfl ?_
  refine wa_return dX4_note_81 rfl ?_
  exact ⟨rfl, by rw [hr]⟩
set_option maxRecDepth 20000 in
theorem c_note (hL : LX S) {p lf : Nat} (hp : tmObj S p 2) (hl : I p 1 = (lf : Int)) (hl1 : 1 ≤ lf) (hl2 : lf ≤ 120) {k : Nat} (hk : I 144 1 = (k : Int)) (hk2 : k < 200) (r : Int) (hr : I 143 3 = r) (d0 : isDg r) (d1 : isDg (I 148 0)) (d2 : isDg (I 148 1)) (d3 : isDg (I 148 2)) (d4 : isDg (I 147 (lf - 1))) (d5 : isDg (gen3 (I 146) (I 147 (lf - 1)) (I 148) 3 0 (svOf (I 146) 50 0 (I 147 (lf - 1))) + 1)) :
    tmC yX4_note kX4_note 3 0 0 [tR 143, tR p] (S, I, L) (tmF none (S, va_up I 144 (va_up (I 144) 1 (k + 1 : Nat)), va_up L 145 (va_up (L 145) k (tmPk r (I 148 0) (I 148 1) (I 148 2) (I 147 (lf - 1)) (gen3 (I 146) (I 147 (lf - 1)) (I 148) 3 0 (svOf (I 146) 50 0 (I 147 (lf - 1))) + 1))))) := by
  refine tmC.mk (lv := [some (tR 143), some (tR p), none, none, none]) 3 ⟨rfl, by decide +kernel, by decide⟩ rfl rfl ?_
  refine wt_ir (fun hI => ?_)
  have o143 := oX143 hL
  have r143_0 := rX143_0 hL
  have r143_1 := rX143_1 hL
  have r143_2 := rX143_2 hL
  have r143_4 := rX143_4 hL
  have r143_5 := rX143_5 hL
  have r143_6 := rX143_6 hL
  have o144 := oX144 hL
  have r144_0 := rX144_0 hL
  have o145 := oX145 hL
  have o148 := oX148 hL
  have hf : LFin S 144 200 := ⟨o144, r144_0, o145⟩
  have e1 : svOf (I 147) 120 (-1) ((lf : Int) - 1) = I 147 (lf - 1) := by unfold svOf; rw [if_pos ⟨by omega, by omega⟩]; congr 1; omega
  have hs : inR (svOf (I 146) 50 0 (I 147 (lf - 1))) := by unfold svOf; split; exact hI _ _; exact ⟨by omega, by omega⟩
  refine wa_aload_n dX4_note_0 rfl ?_
  refine wa_aload_n dX4_note_1 rfl ?_
  refine wt_getI dX4_note_2 FX4_68 (by assumption) ?_
  try rw [hl]
  refine wa_iconst dX4_note_5 ?_
  refine wa_isub dX4_note_6 ?_
  refine wa_callVf (ci := 4) dX4_note_7 KX4_valueOf LX4_144 ⟨_, _, rfl, by decide⟩ o143 (by have := c_valueOf (L := L) (I := I) hL ((lf : Int) - 1) ⟨by omega, by omega⟩; rw [e1] at this; exact this) (by decide) rfl rfl (Nat.le_of_ble_eq_true rfl) rfl rfl ?_
  refine wa_istore_n dX4_note_10 (by decide) ?_
  refine wa_aload_n dX4_note_11 rfl ?_
  refine wa_iload_n dX4_note_12 rfl ?_
  refine wa_callVf (ci := 4) dX4_note_13 KX4_leastOf LX4_160 ⟨_, _, rfl, by decide⟩ o143 (c_leastOf hL (I 147 (lf - 1)) (hI _ _)) (by decide) rfl rfl (Nat.le_of_ble_eq_true rfl) rfl rfl ?_
  refine wa_istore_n dX4_note_16 (by decide) ?_
  refine wa_iconst dX4_note_17 ?_
  refine wa_istore dX4_note_18 (by decide) ?_
  refine note_loop hL (I 147 (lf - 1)) _ 3 0 _ (by omega) hs (fun hg => ?_)
  exact note_tail hL hf hk hk2 r hr d0 d1 d2 d3 d4 d5
end S26
