/-! ===== 22: Standing.fewestOf, fewestSigns (fewest is row 139) ===== -/
def fwOf (c : Nat → Int) (x : Int) : Int := if 0 ≤ x ∧ x < 50 then c x.toNat else 0
/-- a TERM is looked at -/
def fwStep (n : Nat) (on ot ho : Nat → Int) (t : Nat) (c : Nat → Int) : Nat → Int :=
  if 1 + fwOf c (tmHome n ho (on t)) + fwOf c (tmHome n ho (ot t)) < c (ho t).toNat then va_up c (ho t).toNat (1 + fwOf c (tmHome n ho (on t)) + fwOf c (tmHome n ho (ot t))) else c
def fwRun (n : Nat) (on ot ho : Nat → Int) : Nat → Nat → (Nat → Int) → Nat → Int
  | 0, _, c => c
  | k + 1, t, c => fwRun n on ot ho k (t + 1) (fwStep n on ot ho t c)
abbrev fwPass (n : Nat) (on ot ho c : Nat → Int) : Nat → Int := fwRun n on ot ho n 0 c
def fwN (n : Nat) (on ot ho c : Nat → Int) : Nat → Nat → Int
  | 0 => c
  | m + 1 => fwPass n on ot ho (fwN n on ot ho c m)
def fwB (c : Nat → Int) : Prop := ∀ x, x < 50 → 0 ≤ c x ∧ c x ≤ 1000000
theorem fwOf_b {c : Nat → Int} (h : fwB c) (x : Int) : 0 ≤ fwOf c x ∧ fwOf c x ≤ 1000000 := by
  unfold fwOf
  split
  · exact h _ (by omega)
  · omega
theorem fwStep_b {n : Nat} {on ot ho c : Nat → Int} {t : Nat} (h : fwB c) : fwB (fwStep n on ot ho t c) := by
  have a := fwOf_b h (tmHome n ho (on t))
  have b := fwOf_b h (tmHome n ho (ot t))
  unfold fwStep
  split
  · next z =>
    intro x hx
    by_cases e : x = (ho t).toNat
    · subst e; rw [vup_s]; have := h _ hx; omega
    · rw [vup_n e]; exact h x hx
  · exact h
theorem fwRun_b {n : Nat} {on ot ho : Nat → Int} : ∀ (k t : Nat) (c : Nat → Int), fwB c → fwB (fwRun n on ot ho k t c) := by
  intro k
  induction k with
  | zero => intro t c h; exact h
  | succ k ih => intro t c h; exact ih (t + 1) _ (fwStep_b h)
theorem fwN_b {n : Nat} {on ot ho c : Nat → Int} (h : fwB c) : ∀ m, fwB (fwN n on ot ho c m) := by
  intro m
  induction m with
  | zero => exact h
  | succ m ih => exact fwRun_b _ _ _ ih
section S22
variable {S : tmS} {I : Nat → Nat → Int} {L : Nat → Nat → Int64}
set_option maxRecDepth 20000 in
theorem c_fewestOf (hL : LX S) (x : Int) (hx : inR x) : tmC yX5_fewestOf kX5_fewestOf 1 0 0 [tR 133, tI x] (S, I, L) (tmF (some (tI (fwOf (I 139) x))) (S, I, L)) := by
  refine tmC.mk (lv := [some (tR 133), some (tI x)]) 0 ⟨rfl, by decide +kernel, by decide⟩ rfl rfl ?_
  refine wt_ir (fun hI => ?_)
  have o133 := oX133 hL
  have r133_0 := rX133_0 hL
  have r133_1 := rX133_1 hL
  have r133_3 := rX133_3 hL
  have r133_5 := rX133_5 hL
  have r133_6 := rX133_6 hL
  have r133_7 := rX133_7 hL
  have o139 := oX139 hL
  refine wa_iload_n dX5_fewestOf_0 rfl ?_
  refine wa_if_lt 19 dX5_fewestOf_1 (by decide) (by first | exact hI _ _ | exact ⟨by omega, by omega⟩ | assumption) (fun c_1 => ?_) (fun c_1 => ?_)
  · refine wa_iconst dX5_fewestOf_19 ?_
    refine wa_ireturn dX5_fewestOf_20 rfl ?_
    exact ⟨by first | rw [fwOf, if_pos (by omega)] | rw [fwOf, if_neg (by omega)], rfl⟩
  · refine wa_iload_n dX5_fewestOf_4 rfl ?_
    refine wa_bipush dX5_fewestOf_5 rfl ?_
    refine wa_icmp_ge 19 dX5_fewestOf_7 (by decide) (by first | exact hI _ _ | exact ⟨by omega, by omega⟩ | assumption) (by first | exact hI _ _ | exact ⟨by omega, by omega⟩ | assumption) (fun c_7 => ?_) (fun c_7 => ?_)
    · refine wa_iconst dX5_fewestOf_19 ?_
      refine wa_ireturn dX5_fewestOf_20 rfl ?_
      exact ⟨by first | rw [fwOf, if_pos (by omega)] | rw [fwOf, if_neg (by omega)], rfl⟩
    · refine wa_aload_n dX5_fewestOf_10 rfl ?_
      refine wt_getR dX5_fewestOf_11 FX5_36 (by assumption) (by assumption) ?_
      refine wa_iload_n dX5_fewestOf_14 rfl ?_
      refine wt_iald x.toNat dX5_fewestOf_15 (by assumption) (by omega) (by omega) ?_
      refine wa_goto 20 dX5_fewestOf_16 (by decide) ?_
      refine wa_ireturn dX5_fewestOf_20 rfl ?_
      exact ⟨by first | rw [fwOf, if_pos (by omega)] | rw [fwOf, if_neg (by omega)], rfl⟩
set_option maxRecDepth 20000 in
set_option maxHeartbeats 1000000 in
theorem fewest_inner (hL : LX S) {n : Nat} (hn : I 2 0 = (n : Int)) (hn5 : n ≤ 50) (hh : HO n (I 7)) (x : Int) (pass : Nat) (cs : Nat → Int) (Q : Option tmV → tmH → Prop) : ∀ (k t : Nat) (mo : Int) (c : Nat → Int) (y z : Option tmV), t + k = n → (mo = 0 ∨ mo = 1) → fwB c → (mo = 0 → c = cs) →
    (∀ (mo' : Int) (t' y' z' : Option tmV), (mo' = 0 ∨ mo' = 1) → (mo' = 0 → fwRun n (I 4) (I 5) (I 7) k t c = cs) → tmW kX5_fewestSigns 3 0 0 111 [some (tR 133), some (tR 2), some (tI x), some (tI mo'), some (tI pass), t', y', z'] [] (S, va_up I 139 (fwRun n (I 4) (I 5) (I 7) k t c), L) Q) →
    tmW kX5_fewestSigns 3 0 0 30 [some (tR 133), some (tR 2), some (tI x), some (tI mo), some (tI pass), some (tI t), y, z] [] (S, va_up I 139 c, L) Q := by
  intro k
  have o2 := oX2 hL
  have r2_1 := rX2_1 hL
  have r2_2 := rX2_2 hL
  have r2_3 := rX2_3 hL
  have r2_4 := rX2_4 hL
  have r2_5 := rX2_5 hL
  have o4 := oX4 hL
  have o5 := oX5 hL
  have o7 := oX7 hL
  have o133 := oX133 hL
  have r133_0 := rX133_0 hL
  have r133_1 := rX133_1 hL
  have r133_3 := rX133_3 hL
  have r133_5 := rX133_5 hL
  have r133_6 := rX133_6 hL
  have r133_7 := rX133_7 hL
  have o139 := oX139 hL
  induction k with
  | zero =>
    intro t mo c y z ht hmo hb h0 kk
    refine wt_ir (fun hI => ?_)
    refine wa_iload dX5_fewestSigns_30 rfl ?_
    refine wa_aload_n dX5_fewestSigns_32 rfl ?_
    refine wt_getI dX5_fewestSigns_33 FX5_52 (by assumption) ?_
    try simp only [vup_if, Nat.reduceEqDiff, ↓reduceIte, hn]
    refine wa_icmp_ge 111 dX5_fewestSigns_36 (by decide) (by exact ⟨by omega, by omega⟩) (by exact ⟨by omega, by omega⟩) (fun c_36 => ?_) (fun c_36 => ?_)
    · exact kk mo _ _ _ hmo h0
    · omega
  | succ k ih =>
    intro t mo c y z ht hmo hb h0 kk
    have hn' : va_up I 139 c 2 0 = (n : Int) := by simp only [vup_if, Nat.reduceEqDiff, ↓reduceIte]; exact hn
    have f7 : va_up I 139 c 7 = I 7 := by simp only [vup_if, Nat.reduceEqDiff, ↓reduceIte]
    have at_ := hh t (by omega)
    refine wt_ir (fun hI => ?_)
    have hI4 : inR (I 4 t) := by have := hI 4 t; simpa [vup_if] using this
    have hI5 : inR (I 5 t) := by have := hI 5 t; simpa [vup_if] using this
    have hr : ∀ w, inR (tmHome n (I 7) w) := by intro w; unfold tmHome; split; (have := hI 7 w.toNat; simpa [vup_if] using this); exact ⟨by omega, by omega⟩
    have b1 := fwOf_b hb (tmHome n (I 7) (I 4 t))
    have b2 := fwOf_b hb (tmHome n (I 7) (I 5 t))
    have b3 := fwOf_b hb (I 7 t)
    have eo : fwOf c (I 7 t) = c (I 7 t).toNat := by rw [fwOf, if_pos ⟨by omega, by omega⟩]
    refine wa_iload dX5_fewestSigns_30 rfl ?_
    refine wa_aload_n dX5_fewestSigns_32 rfl ?_
    refine wt_getI dX5_fewestSigns_33 FX5_52 (by assumption) ?_
    try simp only [vup_if, Nat.reduceEqDiff, ↓reduceIte, hn]
    refine wa_icmp_ge 111 dX5_fewestSigns_36 (by decide) (by exact ⟨by omega, by omega⟩) (by exact ⟨by omega, by omega⟩) (fun c_36 => ?_) (fun c_36 => ?_)
    · omega
    · refine wa_iconst dX5_fewestSigns_39 ?_
      refine wa_aload_n dX5_fewestSigns_40 rfl ?_
      refine wa_aload_n dX5_fewestSigns_41 rfl ?_
      refine wa_aload_n dX5_fewestSigns_42 rfl ?_
      refine wt_getR dX5_fewestSigns_43 FX5_60 (by assumption) (by assumption) ?_
      refine wa_iload dX5_fewestSigns_46 rfl ?_
      refine wt_iald _ dX5_fewestSigns_48 (by assumption) rfl (by omega) ?_
      try simp only [vup_if, Nat.reduceEqDiff, ↓reduceIte, hn]
      refine wa_callVf (ci := 8) dX5_fewestSigns_49 KX8_homeOf LX5_63 ⟨_, _, rfl, by decide⟩ o2 (by have := c_homeOf (L := L) hL hn' hn5 (I 4 t) hI4; rw [f7] at this; exact this) (by decide) rfl rfl (Nat.le_of_ble_eq_true rfl) rfl rfl ?_
      refine wa_callVf (ci := 5) dX5_fewestSigns_52 KX5_fewestOf LX5_89 ⟨_, _, rfl, by decide⟩ o133 (by have := c_fewestOf (I := va_up I 139 c) (L := L) hL (tmHome n (I 7) (I 4 t)) (hr _); rw [vup_s] at this; exact this) (by decide) rfl rfl (Nat.le_of_ble_eq_true rfl) rfl rfl ?_
      refine wa_iadd dX5_fewestSigns_55 ?_
      refine wa_aload_n dX5_fewestSigns_56 rfl ?_
      refine wa_aload_n dX5_fewestSigns_57 rfl ?_
      refine wa_aload_n dX5_fewestSigns_58 rfl ?_
      refine wt_getR dX5_fewestSigns_59 FX5_67 (by assumption) (by assumption) ?_
      refine wa_iload dX5_fewestSigns_62 rfl ?_
      refine wt_iald _ dX5_fewestSigns_64 (by assumption) rfl (by omega) ?_
      try simp only [vup_if, Nat.reduceEqDiff, ↓reduceIte, hn]
      refine wa_callVf (ci := 8) dX5_fewestSigns_65 KX8_homeOf LX5_63 ⟨_, _, rfl, by decide⟩ o2 (by have := c_homeOf (L := L) hL hn' hn5 (I 5 t) hI5; rw [f7] at this; exact this) (by decide) rfl rfl (Nat.le_of_ble_eq_true rfl) rfl rfl ?_
      refine wa_callVf (ci := 5) dX5_fewestSigns_68 KX5_fewestOf LX5_89 ⟨_, _, rfl, by decide⟩ o133 (by have := c_fewestOf (I := va_up I 139 c) (L := L) hL (tmHome n (I 7) (I 5 t)) (hr _); rw [vup_s] at this; exact this) (by decide) rfl rfl (Nat.le_of_ble_eq_true rfl) rfl rfl ?_
      refine wa_iadd dX5_fewestSigns_71 ?_
      refine wa_istore dX5_fewestSigns_72 (by decide) ?_
      refine wa_aload_n dX5_fewestSigns_74 rfl ?_
      refine wt_getR dX5_fewestSigns_75 FX5_74 (by assumption) (by assumption) ?_
      refine wa_iload dX5_fewestSigns_78 rfl ?_
      refine wt_iald _ dX5_fewestSigns_80 (by assumption) rfl (by omega) ?_
      try simp only [vup_if, Nat.reduceEqDiff, ↓reduceIte, hn]
      refine wa_istore dX5_fewestSigns_81 (by decide) ?_
      refine wa_iload dX5_fewestSigns_83 rfl ?_
      refine wa_aload_n dX5_fewestSigns_85 rfl ?_
      refine wa_iload dX5_fewestSigns_86 rfl ?_
      refine wa_callVf (ci := 5) dX5_fewestSigns_88 KX5_fewestOf LX5_89 ⟨_, _, rfl, by decide⟩ o133 (by have := c_fewestOf (I := va_up I 139 c) (L := L) hL (I 7 t) ⟨by omega, by omega⟩; rw [vup_s] at this; exact this) (by decide) rfl rfl (Nat.le_of_ble_eq_true rfl) rfl rfl ?_
      refine wa_icmp_ge 105 dX5_fewestSigns_91 (by decide) (by exact ⟨by omega, by omega⟩) (by exact ⟨by omega, by omega⟩) (fun c_91 => ?_) (fun c_91 => ?_)
      · have es : fwStep n (I 4) (I 5) (I 7) t c = c := by unfold fwStep; rw [if_neg (by rw [← eo]; omega)]
        have kk2 := kk
        simp only [fwRun] at kk2
        rw [es] at kk2
        have nx := fun y z => ih (t + 1) mo c y z (by omega) hmo hb h0 kk2
        try rw [vup_vup, vup_s]
        refine wa_iinc dX5_fewestSigns_105 rfl (by decide) ?_
        refine wa_goto 30 dX5_fewestSigns_108 (by decide) ?_
        exact nx _ _
      · have es : fwStep n (I 4) (I 5) (I 7) t c = va_up c (I 7 t).toNat (1 + fwOf c (tmHome n (I 7) (I 4 t)) + fwOf c (tmHome n (I 7) (I 5 t))) := by unfold fwStep; rw [if_pos (by rw [← eo]; omega)]
        have kk2 := kk
        simp only [fwRun] at kk2
        rw [es] at kk2
        have nx := fun y z => ih (t + 1) 1 (va_up c (I 7 t).toNat (1 + fwOf c (tmHome n (I 7) (I 4 t)) + fwOf c (tmHome n (I 7) (I 5 t)))) y z (by omega) (Or.inr rfl) (by rw [← es]; exact fwStep_b hb) (fun e => by omega) kk2
        refine wa_aload_n dX5_fewestSigns_94 rfl ?_
        refine wt_getR dX5_fewestSigns_95 FX5_36 (by assumption) (by assumption) ?_
        refine wa_iload dX5_fewestSigns_98 rfl ?_
        refine wa_iload dX5_fewestSigns_100 rfl ?_
        refine wt_iast (I 7 t).toNat dX5_fewestSigns_102 (by assumption) (by omega) (by omega) (by exact ⟨by omega, by omega⟩) ?_
        refine wa_iconst dX5_fewestSigns_103 ?_
        refine wa_istore_n dX5_fewestSigns_104 (by decide) ?_
        try rw [vup_vup, vup_s]
        refine wa_iinc dX5_fewestSigns_105 rfl (by decide) ?_
        refine wa_goto 30 dX5_fewestSigns_108 (by decide) ?_
        exact nx _ _
set_option maxRecDepth 20000 in
theorem fewest_end (hL : LX S) (x : Int) (hx : inR x) (c : Nat → Int) {pass : Int} {y z w : Option tmV} {Q : Option tmV → tmH → Prop} (hq : Q (some (tI (fwOf c x))) (S, va_up I 139 c, L)) : tmW kX5_fewestSigns 3 0 0 117 [some (tR 133), some (tR 2), some (tI x), some (tI 0), some (tI pass), y, z, w] [] (S, va_up I 139 c, L) Q := by
  have o133 := oX133 hL
  have r133_0 := rX133_0 hL
  have r133_1 := rX133_1 hL
  have r133_3 := rX133_3 hL
  have r133_5 := rX133_5 hL
  have r133_6 := rX133_6 hL
  have r133_7 := rX133_7 hL
  refine wa_aload_n dX5_fewestSigns_117 rfl ?_
  refine wa_iload_n dX5_fewestSigns_118 rfl ?_
  refine wa_callVf (ci := 5) dX5_fewestSigns_119 KX5_fewestOf LX5_89 ⟨_, _, rfl, by decide⟩ o133 (by have := c_fewestOf (I := va_up I 139 c) (L := L) hL x hx; rw [vup_s] at this; exact this) (by decide) rfl rfl (Nat.le_of_ble_eq_true rfl) rfl rfl ?_
  refine wa_ireturn dX5_fewestSigns_122 rfl ?_
  exact hq
set_option maxRecDepth 20000 in
theorem fewest_end1 (hL : LX S) (x : Int) (hx : inR x) (c : Nat → Int) {pass : Int} {mo : Int} {y z w : Option tmV} {Q : Option tmV → tmH → Prop} (hq : Q (some (tI (fwOf c x))) (S, va_up I 139 c, L)) : tmW kX5_fewestSigns 3 0 0 117 [some (tR 133), some (tR 2), some (tI x), some (tI mo), some (tI pass), y, z, w] [] (S, va_up I 139 c, L) Q := by
  have o133 := oX133 hL
  have r133_0 := rX133_0 hL
  have r133_1 := rX133_1 hL
  have r133_3 := rX133_3 hL
  have r133_5 := rX133_5 hL
  have r133_6 := rX133_6 hL
  have r133_7 := rX133_7 hL
  refine wa_aload_n dX5_fewestSigns_117 rfl ?_
  refine wa_iload_n dX5_fewestSigns_118 rfl ?_
  refine wa_callVf (ci := 5) dX5_fewestSigns_119 KX5_fewestOf LX5_89 ⟨_, _, rfl, by decide⟩ o133 (by have := c_fewestOf (I := va_up I 139 c) (L := L) hL x hx; rw [vup_s] at this; exact this) (by decide) rfl rfl (Nat.le_of_ble_eq_true rfl) rfl rfl ?_
  refine wa_ireturn dX5_fewestSigns_122 rfl ?_
  exact hq
/-- what fewestSigns leaves: the fewest after m passes, the last of which changed nothing, or 51 -/
abbrev FwPost (c0 : Nat → Int) (S : tmS) (I : Nat → Nat → Int) (L : Nat → Nat → Int64) (n : Nat) (x : Int) : Option tmV → tmH → Prop := fun r h' => ∃ m, (m = 51 ∨ fwPass n (I 4) (I 5) (I 7) (fwN n (I 4) (I 5) (I 7) c0 m) = fwN n (I 4) (I 5) (I 7) c0 m) ∧ m ≤ 51 ∧ r = some (tI (fwOf (fwN n (I 4) (I 5) (I 7) c0 m) x)) ∧ ∃ c, h' = (S, va_up I 139 c, L)
set_option maxRecDepth 20000 in
theorem fewest_back {x : Int} {mo : Int} {m : Nat} {y z w : Option tmV} {h : tmH} {Q : Option tmV → tmH → Prop} (k : tmW kX5_fewestSigns 3 0 0 14 [some (tR 133), some (tR 2), some (tI x), some (tI mo), some (tI (m + 1 : Nat)), y, z, w] [] h Q) : tmW kX5_fewestSigns 3 0 0 111 [some (tR 133), some (tR 2), some (tI x), some (tI mo), some (tI m), y, z, w] [] h Q := by
  refine wa_iinc dX5_fewestSigns_111 rfl (by decide) ?_
  refine wa_goto 14 dX5_fewestSigns_114 (by decide) ?_
  exact k
set_option maxRecDepth 20000 in
theorem fewest_fix {c0 : Nat → Int} (hL : LX S) {n : Nat} (x : Int) (hx : inR x) {m : Nat} {y z w : Option tmV} (hf : fwPass n (I 4) (I 5) (I 7) (fwN n (I 4) (I 5) (I 7) c0 m) = fwN n (I 4) (I 5) (I 7) c0 m) (hm : m + 1 ≤ 51) : tmW kX5_fewestSigns 3 0 0 14 [some (tR 133), some (tR 2), some (tI x), some (tI 0), some (tI (m + 1 : Nat)), y, z, w] [] (S, va_up I 139 (fwPass n (I 4) (I 5) (I 7) (fwN n (I 4) (I 5) (I 7) c0 m)), L) (FwPost c0 S I L n x) := by
  rw [hf]
  refine wa_iload_n dX5_fewestSigns_14 rfl ?_
  refine wa_if_eq 117 dX5_fewestSigns_15 (by decide) (by exact ⟨by omega, by omega⟩) (fun c_15 => ?_) (fun c_15 => ?_)
  · exact fewest_end hL x hx _ ⟨m, Or.inr hf, by omega, rfl, _, rfl⟩
  · omega
set_option maxRecDepth 20000 in
theorem fewest_outer {c0 : Nat → Int} (hc0 : fwB c0) (hL : LX S) {n : Nat} (hn : I 2 0 = (n : Int)) (hn5 : n ≤ 50) (hh : HO n (I 7)) (x : Int) (hx : inR x) : ∀ (k m : Nat) (y z w : Option tmV), m + k = 51 → 
    tmW kX5_fewestSigns 3 0 0 14 [some (tR 133), some (tR 2), some (tI x), some (tI 1), some (tI m), y, z, w] [] (S, va_up I 139 (fwN n (I 4) (I 5) (I 7) c0 m), L) (FwPost c0 S I L n x) := by
  intro k
  induction k with
  | zero =>
    intro m y z w hm
    refine wa_iload_n dX5_fewestSigns_14 rfl ?_
    refine wa_if_eq 117 dX5_fewestSigns_15 (by decide) (by exact ⟨by omega, by omega⟩) (fun c_15 => ?_) (fun c_15 => ?_)
    · omega
    · refine wa_iload dX5_fewestSigns_18 rfl ?_
      refine wa_bipush dX5_fewestSigns_20 rfl ?_
      refine wa_icmp_gt 117 dX5_fewestSigns_22 (by decide) (by exact ⟨by omega, by omega⟩) (by exact ⟨by omega, by omega⟩) (fun c_22 => ?_) (fun c_22 => ?_)
      · exact fewest_end1 hL x hx _ ⟨m, Or.inl (by omega), by omega, rfl, _, rfl⟩
      · omega
  | succ k ih =>
    intro m y z w hm
    have hb : fwB (fwN n (I 4) (I 5) (I 7) c0 m) := fwN_b hc0 m
    refine wa_iload_n dX5_fewestSigns_14 rfl ?_
    refine wa_if_eq 117 dX5_fewestSigns_15 (by decide) (by exact ⟨by omega, by omega⟩) (fun c_15 => ?_) (fun c_15 => ?_)
    · omega
    · refine wa_iload dX5_fewestSigns_18 rfl ?_
      refine wa_bipush dX5_fewestSigns_20 rfl ?_
      refine wa_icmp_gt 117 dX5_fewestSigns_22 (by decide) (by exact ⟨by omega, by omega⟩) (by exact ⟨by omega, by omega⟩) (fun c_22 => ?_) (fun c_22 => ?_)
      · omega
      · refine wa_iconst dX5_fewestSigns_25 ?_
        refine wa_istore_n dX5_fewestSigns_26 (by decide) ?_
        refine wa_iconst dX5_fewestSigns_27 ?_
        refine wa_istore dX5_fewestSigns_28 (by decide) ?_
        refine fewest_inner hL hn hn5 hh x m (fwN n (I 4) (I 5) (I 7) c0 m) _ n 0 0 _ _ _ (by omega) (Or.inl rfl) hb (fun _ => rfl) ?_
        intro mo' t' y' z' hmo hfix
        have ih' := fun y z w => ih (m + 1) y z w (by omega)
        rcases hmo with rfl | rfl
        · exact fewest_back (fewest_fix hL x hx (hfix rfl) (by omega))
        · exact fewest_back (ih' _ _ _)
set_option maxRecDepth 20000 in
theorem c_fewestSigns (hL : LX S) {n : Nat} (hn : I 2 0 = (n : Int)) (hn5 : n ≤ 50) (hh : HO n (I 7)) (x : Int) (hx : 0 ≤ x ∧ x < 50) : tmC yX5_fewestSigns kX5_fewestSigns 3 0 0 [tR 133, tR 2, tI x] (S, I, L) (FwPost (tmFill (I 139) 50 1000000) S I L n x) := by
  refine tmC.mk (lv := [some (tR 133), some (tR 2), some (tI x), none, none, none, none, none]) 5 ⟨rfl, by decide +kernel, by decide⟩ rfl rfl ?_
  have o133 := oX133 hL
  have r133_0 := rX133_0 hL
  have r133_1 := rX133_1 hL
  have r133_3 := rX133_3 hL
  have r133_5 := rX133_5 hL
  have r133_6 := rX133_6 hL
  have r133_7 := rX133_7 hL
  have o139 := oX139 hL
  have hb : fwB (tmFill (I 139) 50 1000000) := fun j hj => by unfold tmFill; rw [if_pos hj]; constructor <;> omega
  refine wa_aload_n dX5_fewestSigns_0 rfl ?_
  refine wt_getR dX5_fewestSigns_1 FX5_36 (by assumption) (by assumption) ?_
  refine wa_ldc dX5_fewestSigns_4 QX5_88 (a := 1000000) rfl ?_
  refine wa_callSf dX5_fewestSigns_6 KJ7_fill_53178 LX5_39 (c_fillI o139 1000000 ⟨by omega, by omega⟩) (by decide) rfl rfl (Nat.le_of_ble_eq_true rfl) rfl rfl ?_
  refine wa_iconst dX5_fewestSigns_9 ?_
  refine wa_istore_n dX5_fewestSigns_10 (by decide) ?_
  refine wa_iconst dX5_fewestSigns_11 ?_
  refine wa_istore dX5_fewestSigns_12 (by decide) ?_
  exact fewest_outer hb hL hn hn5 hh x ⟨by omega, by omega⟩ 51 0 _ _ _ (by omega)
end S22
