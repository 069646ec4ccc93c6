/-! ===== 25: what a node of a Pattern stands for; Search.stands ===== -/
def plK (pl : Nat → Int) (k : Int) : Int := if k < 0 then -1 else pl k.toNat
def tvF (pl sg on ot ch : Nat → Int) : Nat → Int → Int
  | 0, _ => -1
  | f + 1, i => if i < 0 then -1 else if 7 ≤ sg i.toNat then ch (sg i.toNat - 7).toNat else plK pl (tmKey (sg i.toNat) (tvF pl sg on ot ch f (on i.toNat)) (tvF pl sg on ot ch f (ot i.toNat)))
/-- the CLASS that a node stands for, with CLASSES ch for LETTERS -/
def tv (pl sg on ot ch : Nat → Int) (i : Int) : Int := tvF pl sg on ot ch (i.toNat + 1) i
/-- nodes 0 .. m - 1 are those of a Pattern: parts ahead of wholes -/
def WFN (m : Nat) (sg on ot : Nat → Int) : Prop := ∀ i, i < m → 0 ≤ sg i ∧ sg i ≤ 9 ∧ -1 ≤ on i ∧ on i < i ∧ -1 ≤ ot i ∧ ot i < i ∧ (sg i < 4 → on i = -1 ∧ ot i = -1) ∧ (7 ≤ sg i → on i = -1 ∧ ot i = -1) ∧ (4 ≤ sg i ∧ sg i < 7 → 0 ≤ on i) ∧ (4 ≤ sg i ∧ sg i < 6 → ot i = -1) ∧ (sg i = 6 → 0 ≤ ot i)
theorem tvF_neg {pl sg on ot ch : Nat → Int} {i : Int} (hi : i < 0) (f : Nat) : tvF pl sg on ot ch f i = -1 := by
  cases f with
  | zero => rfl
  | succ f => simp only [tvF, hi, if_true]
theorem tvF_big {m : Nat} {pl sg on ot ch : Nat → Int} (hw : WFN m sg on ot) : ∀ (f : Nat) (i : Int), i < m → (i < 0 ∨ i.toNat < f) → tvF pl sg on ot ch f i = tv pl sg on ot ch i := by
  intro f
  induction f using Nat.strongRecOn with
  | ind f ih =>
    intro i him hif
    by_cases hi0 : i < 0
    · unfold tv; rw [tvF_neg hi0, tvF_neg hi0]
    · have hif : i.toNat < f := by omega
      unfold tv
      match f, hif with
      | f + 1, hif =>
        have w := hw i.toNat (by omega)
        by_cases hfe : f = i.toNat
        · rw [hfe]
        · have h1 : ∀ x : Int, x < i → -1 ≤ x → tvF pl sg on ot ch f x = tvF pl sg on ot ch i.toNat x := by
            intro x hx hx1
            have a := ih f (by omega) x (by omega) (by omega)
            have b := ih i.toNat (by omega) x (by omega) (by omega)
            rw [a, b]
          simp only [tvF, hi0, if_false]
          rw [h1 (on i.toNat) (by omega) (by omega), h1 (ot i.toNat) (by omega) (by omega)]
theorem tv_eq {m : Nat} {pl sg on ot ch : Nat → Int} (hw : WFN m sg on ot) {i : Nat} (hi : i < m) : tv pl sg on ot ch i = if 7 ≤ sg i then ch (sg i - 7).toNat else plK pl (tmKey (sg i) (tv pl sg on ot ch (on i)) (tv pl sg on ot ch (ot i))) := by
  have w := hw i hi
  have e : (i : Int).toNat = i := by omega
  conv => lhs; unfold tv
  rw [e]
  simp only [tvF, e]
  rw [if_neg (by omega), tvF_big hw i (on i) (by omega) (by omega), tvF_big hw i (ot i) (by omega) (by omega)]
theorem tv_neg {pl sg on ot ch : Nat → Int} {i : Int} (hi : i < 0) : tv pl sg on ot ch i = -1 := by unfold tv; simp only [tvF, hi, if_true]
/-- the rows of stages -/
def WFS (m : Nat) (sg on ot st : Nat → Int) : Prop := ∀ i, i < m → 0 ≤ st i ∧ st i ≤ 3 ∧ (7 ≤ sg i → st i = sg i - 6) ∧ (sg i < 7 → (0 ≤ on i → st (on i).toNat ≤ st i) ∧ (0 ≤ ot i → st (ot i).toNat ≤ st i) ∧ (st i = 0 ∨ (0 ≤ on i ∧ st i = st (on i).toNat) ∨ (0 ≤ ot i ∧ st i = st (ot i).toNat)))
/-- a node's CLASS hangs on the LETTERS up to its stage alone -/
theorem tv_dep {m : Nat} {pl sg on ot st ch ch' : Nat → Int} (hw : WFN m sg on ot) (hs : WFS m sg on ot st) : ∀ i : Nat, i < m → (∀ l : Nat, (l : Int) < st i → ch l = ch' l) → tv pl sg on ot ch i = tv pl sg on ot ch' i := by
  intro i
  induction i using Nat.strongRecOn with
  | ind i ih =>
    intro hi hc
    have w := hw i hi
    have s := hs i hi
    rw [tv_eq hw hi, tv_eq hw hi]
    by_cases h7 : 7 ≤ sg i
    · rw [if_pos h7, if_pos h7]
      exact hc _ (by have := s.2.2.1 h7; omega)
    · rw [if_neg h7, if_neg h7]
      have s2 := s.2.2.2 (by omega)
      have e1 : tv pl sg on ot ch (on i) = tv pl sg on ot ch' (on i) := by
        by_cases z : 0 ≤ on i
        · have := ih (on i).toNat (by omega) (by omega) (fun l hl => hc l (by have := s2.1 z; omega))
          rw [show (((on i).toNat : Nat) : Int) = on i by omega] at this
          exact this
        · rw [tv_neg (by omega), tv_neg (by omega)]
      have e2 : tv pl sg on ot ch (ot i) = tv pl sg on ot ch' (ot i) := by
        by_cases z : 0 ≤ ot i
        · have := ih (ot i).toNat (by omega) (by omega) (fun l hl => hc l (by have := s2.2.1 z; omega))
          rw [show (((ot i).toNat : Nat) : Int) = ot i by omega] at this
          exact this
        · rw [tv_neg (by omega), tv_neg (by omega)]
      rw [e1, e2]
/-- the nodes below m of stage up to s are told in the row v, and stand -/
def VOK (m : Nat) (pl sg on ot st ch v : Nat → Int) (s : Int) : Prop := ∀ i : Nat, i < m → st i ≤ s → v i = tv pl sg on ot ch i ∧ tv pl sg on ot ch i ≠ -1
section S25
variable {S : tmS} {I : Nat → Nat → Int} {L : Nat → Nat → Int64}
abbrev StdPost (S : tmS) (I : Nat → Nat → Int) (L : Nat → Nat → Int64) (p lf : Nat) (s : Int) : Option tmV → tmH → Prop := fun r h' => ∃ v : Nat → Int, h' = (S, va_up I 147 v, L) ∧ (∀ j, (lf ≤ j ∨ I (p + 4) j ≠ s) → v j = I 147 j) ∧
  ((r = some (tI 1) ∧ VOK lf (I 134) (I (p + 1)) (I (p + 2)) (I (p + 3)) (I (p + 4)) (I 148) v s) ∨ (r = some (tI 0) ∧ ∃ j : Nat, j < lf ∧ I (p + 4) j = s ∧ tv (I 134) (I (p + 1)) (I (p + 2)) (I (p + 3)) (I 148) j = -1))
set_option maxRecDepth 20000 in
set_option maxHeartbeats 2000000 in
theorem stands_loop (hL : LX S) {p m lf : Nat} (hp : LPat S p m) (hl : I p 1 = (lf : Int)) (hlm : lf ≤ m) (hm : m ≤ 120) (hpi : 192 ≤ p) (hw : WFN lf (I (p + 1)) (I (p + 2)) (I (p + 3))) (hws : WFS lf (I (p + 1)) (I (p + 2)) (I (p + 3)) (I (p + 4))) (hplr : ∀ K, K < 2604 → inR (I 134 K)) (s : Int) (hs : 0 ≤ s ∧ s ≤ 3) :
    ∀ (k i : Nat) (v : Nat → Int) (x : Option tmV), i + k = lf → (∀ j, (lf ≤ j ∨ I (p + 4) j ≠ s) → v j = I 147 j) → (∀ j : Nat, j < lf → I (p + 4) j < s ∨ (I (p + 4) j = s ∧ j < i) → v j = tv (I 134) (I (p + 1)) (I (p + 2)) (I (p + 3)) (I 148) j ∧ tv (I 134) (I (p + 1)) (I (p + 2)) (I (p + 3)) (I 148) j ≠ -1) →
    tmW kX4_stands 3 0 0 2 [some (tR 143), some (tR p), some (tI s), some (tI i), x] [] (S, va_up I 147 v, L) (StdPost S I L p lf s) := by
  intro k
  have o143 := oX143 hL
  have r143_0 := rX143_0 hL
  have r143_1 := rX143_1 hL
  have r143_2 := rX143_2 hL
  have r143_4 := rX143_4 hL
  have r143_5 := rX143_5 hL
  have r143_6 := rX143_6 hL
  have o147 := oX147 hL
  have o133 := oX133 hL
  have r133_0 := rX133_0 hL
  have r133_1 := rX133_1 hL
  have r133_3 := rX133_3 hL
  have r133_5 := rX133_5 hL
  have r133_6 := rX133_6 hL
  have r133_7 := rX133_7 hL
  have o134 := oX134 hL
  have hp0 := hp
  obtain ⟨a0, a1, a2, a3, a4, b1', b2', b3', b4'⟩ := hp
  have fr : ∀ (v : Nat → Int) (a : Nat), a ≠ 147 → va_up I 147 v a = I a := fun v a ha => vup_n ha
  have fp0 := fun v => fr v p (by omega)
  have fp1 := fun v => fr v (p + 1) (by omega)
  have fp2 := fun v => fr v (p + 2) (by omega)
  have fp3 := fun v => fr v (p + 3) (by omega)
  have fp4 := fun v => fr v (p + 4) (by omega)
  induction k with
  | zero =>
    intro i v x hi hv1 hv2
    refine wt_ir (fun hI => ?_)
    refine wa_iload_n dX4_stands_2 rfl ?_
    refine wa_aload_n dX4_stands_3 rfl ?_
    refine wt_getI dX4_stands_4 FX4_68 (by assumption) ?_
    try simp only [fp0, fp1, fp2, fp3, fp4, vup_s, hl]
    refine wa_icmp_ge 136 dX4_stands_7 (by decide) (by exact ⟨by omega, by omega⟩) (by exact ⟨by omega, by omega⟩) (fun c_7 => ?_) (fun c_7 => ?_)
    · refine wa_iconst dX4_stands_136 ?_
      refine wa_zreturn dX4_stands_137 rfl (by first | exact Or.inl rfl | exact Or.inr rfl) ?_
      refine ⟨v, rfl, hv1, Or.inl ⟨rfl, fun j hj hjs => hv2 j hj ?_⟩⟩
      by_cases z : I (p + 4) j < s
      · exact Or.inl z
      · exact Or.inr ⟨by omega, by omega⟩
    · omega
  | succ k ih =>
    intro i v x hi hv1 hv2
    have w := hw i (by omega)
    have ws := hws i (by omega)
    refine wt_ir (fun hI => ?_)
    have hI' : ∀ a k, a ≠ 147 → inR (I a k) := fun a k ha => by have := hI a k; rw [fr v a ha] at this; exact this
    have hvr : ∀ k, inR (v k) := fun k => by have := hI 147 k; rw [vup_s] at this; exact this
    by_cases hst : I (p + 4) i = s
    · -- a node of this stage
      have hte := tv_eq (pl := I 134) (ch := I 148) hw (i := i) (by omega)
      -- what behind the store comes
      have fin : ∀ (z : Int) (x : Option tmV), z = tv (I 134) (I (p + 1)) (I (p + 2)) (I (p + 3)) (I 148) i → tmW kX4_stands 3 0 0 118 [some (tR 143), some (tR p), some (tI s), some (tI i), x] [] (S, va_up I 147 (va_up v i z), L) (StdPost S I L p lf s) := by
        intro z x hz
        have g1 : ∀ j, (lf ≤ j ∨ I (p + 4) j ≠ s) → va_up v i z j = I 147 j := fun j hj => by
          rw [vup_n (by rcases hj with hj | hj; omega; intro e; subst e; exact hj hst)]; exact hv1 j hj
        refine wt_ir (fun hI2 => ?_)
        refine wa_aload_n dX4_stands_118 rfl ?_
        refine wt_getR dX4_stands_119 FX4_28 (by assumption) (by assumption) ?_
        refine wa_iload_n dX4_stands_122 rfl ?_
        refine wt_iald _ dX4_stands_123 (by assumption) rfl (by omega) ?_
        try simp only [vup_s]
        refine wa_iconst dX4_stands_124 ?_
        refine wa_icmp_ne 130 dX4_stands_125 (by decide) (by first | (have := hI2 147 i; simp only [vup_s] at this; exact this) | exact ⟨by omega, by omega⟩) (by first | (have := hI2 147 i; simp only [vup_s] at this; exact this) | exact ⟨by omega, by omega⟩) (fun c_125 => ?_) (fun c_125 => ?_)
        · refine wa_iinc dX4_stands_130 rfl (by decide) ?_
          refine wa_goto 2 dX4_stands_133 (by decide) ?_
          refine ih (i + 1) _ _ (by omega) g1 (fun j hj hjs => ?_)
          by_cases e : j = i
          · subst e; rw [vup_s]; exact ⟨hz, by rw [← hz]; exact c_125⟩
          · rw [vup_n e]
            exact hv2 j hj (by rcases hjs with h | ⟨h1, h2⟩; exact Or.inl h; exact Or.inr ⟨h1, by omega⟩)
        · refine wa_iconst dX4_stands_128 ?_
          refine wa_zreturn dX4_stands_129 rfl (by first | exact Or.inl rfl | exact Or.inr rfl) ?_
          exact ⟨_, rfl, g1, Or.inr ⟨rfl, i, by omega, hst, by rw [← hz]; exact c_125⟩⟩
      have part : ∀ y : Int, -1 ≤ y → y < i → (0 ≤ y → I (p + 4) y.toNat ≤ s) → svOf v 120 (-1) y = tv (I 134) (I (p + 1)) (I (p + 2)) (I (p + 3)) (I 148) y := by
        intro y hy1 hy2 hy3
        unfold svOf
        by_cases z : 0 ≤ y
        · rw [if_pos ⟨z, by omega⟩]
          have := (hv2 y.toNat (by omega) (by have := hy3 z; by_cases q : I (p + 4) y.toNat < s; exact Or.inl q; exact Or.inr ⟨by omega, by omega⟩)).1
          rw [show ((y.toNat : Nat) : Int) = y by omega] at this
          exact this
        · rw [if_neg (by omega), tv_neg (by omega)]
      by_cases h7 : 7 ≤ I (p + 1) i
      · rw [if_pos h7] at hte
        have e148 : svOf (va_up I 147 v 148) 3 (-1) (I (p + 1) i - 7) = I 148 (I (p + 1) i - 7).toNat := by
          unfold svOf; rw [if_pos ⟨by omega, by omega⟩, fr v 148 (by decide)]
        have key : tmW kX4_stands 3 0 0 29 [some (tR 143), some (tR p), some (tI s), some (tI i), x] [] (S, va_up I 147 v, L) (StdPost S I L p lf s) := by
          refine wa_aload_n dX4_stands_29 rfl ?_
          refine wt_getR dX4_stands_30 FX4_122 (by assumption) (by assumption) ?_
          refine wa_iload_n dX4_stands_33 rfl ?_
          refine wt_iald _ dX4_stands_34 (by assumption) rfl (by omega) ?_
          try simp only [fp0, fp1, fp2, fp3, fp4, vup_s, hl]
          refine wa_bipush dX4_stands_35 rfl ?_
          refine wa_icmp_lt 62 dX4_stands_37 (by decide) (by first | exact ⟨by omega, by omega⟩ | exact hI' _ _ (by decide)) (by first | exact ⟨by omega, by omega⟩ | exact hI' _ _ (by decide)) (fun c_37 => ?_) (fun c_37 => ?_)
          · omega
          · refine wa_aload_n dX4_stands_40 rfl ?_
            refine wt_getR dX4_stands_41 FX4_28 (by assumption) (by assumption) ?_
            refine wa_iload_n dX4_stands_44 rfl ?_
            refine wa_aload_n dX4_stands_45 rfl ?_
            refine wa_aload_n dX4_stands_46 rfl ?_
            refine wt_getR dX4_stands_47 FX4_122 (by assumption) (by assumption) ?_
            refine wa_iload_n dX4_stands_50 rfl ?_
            refine wt_iald _ dX4_stands_51 (by assumption) rfl (by omega) ?_
            try simp only [fp0, fp1, fp2, fp3, fp4, vup_s, hl]
            refine wa_bipush dX4_stands_52 rfl ?_
            refine wa_isub dX4_stands_54 ?_
            refine wa_callVf (ci := 4) dX4_stands_55 KX4_chosenFor LX4_150 ⟨_, _, rfl, by decide⟩ o143 (by have := c_chosenFor (I := va_up I 147 v) (L := L) hL (I (p + 1) i - 7) ⟨by omega, by omega⟩; rw [e148] at this; exact this) (by decide) rfl rfl (Nat.le_of_ble_eq_true rfl) rfl rfl ?_
            refine wt_iast _ dX4_stands_58 (by assumption) rfl (by omega) (by first | exact ⟨by omega, by omega⟩ | exact hI' _ _ (by decide)) ?_
            refine wa_goto 118 dX4_stands_59 (by decide) ?_
            rw [vup_vup]
            exact fin _ _ hte.symm
        refine wa_iload_n dX4_stands_2 rfl ?_
        refine wa_aload_n dX4_stands_3 rfl ?_
        refine wt_getI dX4_stands_4 FX4_68 (by assumption) ?_
        try simp only [fp0, fp1, fp2, fp3, fp4, vup_s, hl]
        refine wa_icmp_ge 136 dX4_stands_7 (by decide) (by first | exact ⟨by omega, by omega⟩ | exact hI' _ _ (by omega)) (by first | exact ⟨by omega, by omega⟩ | exact hI' _ _ (by omega)) (fun c_7 => ?_) (fun c_7 => ?_)
        · omega
        · refine wa_iload_n dX4_stands_10 rfl ?_
          refine wa_bipush dX4_stands_11 rfl ?_
          refine wa_icmp_ge 136 dX4_stands_13 (by decide) (by first | exact ⟨by omega, by omega⟩ | exact hI' _ _ (by omega)) (by first | exact ⟨by omega, by omega⟩ | exact hI' _ _ (by omega)) (fun c_13 => ?_) (fun c_13 => ?_)
          · omega
          · refine wa_aload_n dX4_stands_16 rfl ?_
            refine wt_getR dX4_stands_17 FX4_147 (by assumption) (by assumption) ?_
            refine wa_iload_n dX4_stands_20 rfl ?_
            refine wt_iald _ dX4_stands_21 (by assumption) rfl (by omega) ?_
            try simp only [fp0, fp1, fp2, fp3, fp4, vup_s, hl]
            refine wa_iload_n dX4_stands_22 rfl ?_
            refine wa_icmp_eq 29 dX4_stands_23 (by decide) (by first | exact ⟨by omega, by omega⟩ | exact hI' _ _ (by omega)) (by first | exact ⟨by omega, by omega⟩ | exact hI' _ _ (by omega)) (fun c_23 => ?_) (fun c_23 => ?_)
            · exact key
            · omega
      · rw [if_neg h7] at hte
        have ws2 := ws.2.2.2 (by omega)
        have p1 := part (I (p + 2) i) (by omega) (by omega) (fun z => by have := ws2.1 z; omega)
        have p2 := part (I (p + 3) i) (by omega) (by omega) (fun z => by have := ws2.2.1 z; omega)
        have hr1 : inR (svOf v 120 (-1) (I (p + 2) i)) := by unfold svOf; split; exact hvr _; exact ⟨by omega, by omega⟩
        have hr2 : inR (svOf v 120 (-1) (I (p + 3) i)) := by unfold svOf; split; exact hvr _; exact ⟨by omega, by omega⟩
        have hkl := tmKey_lt (I (p + 1) i) (svOf v 120 (-1) (I (p + 2) i)) (svOf v 120 (-1) (I (p + 3) i))
        have key : tmW kX4_stands 3 0 0 29 [some (tR 143), some (tR p), some (tI s), some (tI i), x] [] (S, va_up I 147 v, L) (StdPost S I L p lf s) := by
          refine wa_aload_n dX4_stands_29 rfl ?_
          refine wt_getR dX4_stands_30 FX4_122 (by assumption) (by assumption) ?_
          refine wa_iload_n dX4_stands_33 rfl ?_
          refine wt_iald _ dX4_stands_34 (by assumption) rfl (by omega) ?_
          try simp only [fp0, fp1, fp2, fp3, fp4, vup_s, hl, fr v 134 (by decide)]
          refine wa_bipush dX4_stands_35 rfl ?_
          refine wa_icmp_lt 62 dX4_stands_37 (by decide) (by first | exact ⟨by omega, by omega⟩ | exact hI' _ _ (by omega)) (by first | exact ⟨by omega, by omega⟩ | exact hI' _ _ (by omega)) (fun c_37 => ?_) (fun c_37 => ?_)
          · refine wa_aload_n dX4_stands_62 rfl ?_
            refine wt_getR dX4_stands_63 FX4_122 (by assumption) (by assumption) ?_
            refine wa_iload_n dX4_stands_66 rfl ?_
            refine wt_iald _ dX4_stands_67 (by assumption) rfl (by omega) ?_
            try simp only [fp0, fp1, fp2, fp3, fp4, vup_s, hl, fr v 134 (by decide)]
            refine wa_aload_n dX4_stands_68 rfl ?_
            refine wa_aload_n dX4_stands_69 rfl ?_
            refine wt_getR dX4_stands_70 FX4_115 (by assumption) (by assumption) ?_
            refine wa_iload_n dX4_stands_73 rfl ?_
            refine wt_iald _ dX4_stands_74 (by assumption) rfl (by omega) ?_
            try simp only [fp0, fp1, fp2, fp3, fp4, vup_s, hl, fr v 134 (by decide)]
            refine wa_callVf (ci := 4) dX4_stands_75 KX4_valueOf LX4_144 ⟨_, _, rfl, by decide⟩ o143 (by have := c_valueOf (I := va_up I 147 v) (L := L) hL (I (p + 2) i) (hI' _ _ (by omega)); rw [vup_s] at this; exact this) (by decide) rfl rfl (Nat.le_of_ble_eq_true rfl) rfl rfl ?_
            refine wa_aload_n dX4_stands_78 rfl ?_
            refine wa_aload_n dX4_stands_79 rfl ?_
            refine wt_getR dX4_stands_80 FX4_125 (by assumption) (by assumption) ?_
            refine wa_iload_n dX4_stands_83 rfl ?_
            refine wt_iald _ dX4_stands_84 (by assumption) rfl (by omega) ?_
            try simp only [fp0, fp1, fp2, fp3, fp4, vup_s, hl, fr v 134 (by decide)]
            refine wa_callVf (ci := 4) dX4_stands_85 KX4_valueOf LX4_144 ⟨_, _, rfl, by decide⟩ o143 (by have := c_valueOf (I := va_up I 147 v) (L := L) hL (I (p + 3) i) (hI' _ _ (by omega)); rw [vup_s] at this; exact this) (by decide) rfl rfl (Nat.le_of_ble_eq_true rfl) rfl rfl ?_
            refine wa_callSf dX4_stands_88 KX5_keyOf LX4_153 (c_keyOf (I (p + 1) i) _ _ (hI' _ _ (by omega)) hr1 hr2) (by decide) rfl rfl (Nat.le_of_ble_eq_true rfl) rfl rfl ?_
            refine wa_istore dX4_stands_91 (by decide) ?_
            refine wa_aload_n dX4_stands_93 rfl ?_
            refine wt_getR dX4_stands_94 FX4_28 (by assumption) (by assumption) ?_
            refine wa_iload_n dX4_stands_97 rfl ?_
            refine wa_iload dX4_stands_98 rfl ?_
            refine wa_if_ge 107 dX4_stands_100 (by decide) (by first | exact ⟨by omega, by omega⟩ | exact hI' _ _ (by omega)) (fun c_100 => ?_) (fun c_100 => ?_)
            · refine wa_aload_n dX4_stands_107 rfl ?_
              refine wt_getR dX4_stands_108 FX4_38 (by assumption) (by assumption) ?_
              refine wt_getR dX4_stands_111 FX4_157 (by assumption) (by assumption) ?_
              refine wa_iload dX4_stands_114 rfl ?_
              refine wt_iald (tmKey (I (p + 1) i) (svOf v 120 (-1) (I (p + 2) i)) (svOf v 120 (-1) (I (p + 3) i))).toNat dX4_stands_116 (by assumption) (by omega) (by omega) ?_
              try simp only [fp0, fp1, fp2, fp3, fp4, vup_s, hl, fr v 134 (by decide)]
              refine wt_iast _ dX4_stands_117 (by assumption) rfl (by omega) (by first | exact ⟨by omega, by omega⟩ | exact hplr _ (by omega)) ?_
              rw [vup_vup]
              refine fin _ _ ?_
              rw [hte, ← p1, ← p2, plK]
              first | rw [if_neg (by omega)] | rw [if_pos (by omega)]
            · refine wa_iconst dX4_stands_103 ?_
              refine wa_goto 117 dX4_stands_104 (by decide) ?_
              refine wt_iast _ dX4_stands_117 (by assumption) rfl (by omega) (by first | exact ⟨by omega, by omega⟩ | exact hplr _ (by omega)) ?_
              rw [vup_vup]
              refine fin _ _ ?_
              rw [hte, ← p1, ← p2, plK]
              first | rw [if_neg (by omega)] | rw [if_pos (by omega)]
          · omega
        refine wa_iload_n dX4_stands_2 rfl ?_
        refine wa_aload_n dX4_stands_3 rfl ?_
        refine wt_getI dX4_stands_4 FX4_68 (by assumption) ?_
        try simp only [fp0, fp1, fp2, fp3, fp4, vup_s, hl]
        refine wa_icmp_ge 136 dX4_stands_7 (by decide) (by first | exact ⟨by omega, by omega⟩ | exact hI' _ _ (by omega)) (by first | exact ⟨by omega, by omega⟩ | exact hI' _ _ (by omega)) (fun c_7 => ?_) (fun c_7 => ?_)
        · omega
        · refine wa_iload_n dX4_stands_10 rfl ?_
          refine wa_bipush dX4_stands_11 rfl ?_
          refine wa_icmp_ge 136 dX4_stands_13 (by decide) (by first | exact ⟨by omega, by omega⟩ | exact hI' _ _ (by omega)) (by first | exact ⟨by omega, by omega⟩ | exact hI' _ _ (by omega)) (fun c_13 => ?_) (fun c_13 => ?_)
          · omega
          · refine wa_aload_n dX4_stands_16 rfl ?_
            refine wt_getR dX4_stands_17 FX4_147 (by assumption) (by assumption) ?_
            refine wa_iload_n dX4_stands_20 rfl ?_
            refine wt_iald _ dX4_stands_21 (by assumption) rfl (by omega) ?_
            try simp only [fp0, fp1, fp2, fp3, fp4, vup_s, hl]
            refine wa_iload_n dX4_stands_22 rfl ?_
            refine wa_icmp_eq 29 dX4_stands_23 (by decide) (by first | exact ⟨by omega, by omega⟩ | exact hI' _ _ (by omega)) (by first | exact ⟨by omega, by omega⟩ | exact hI' _ _ (by omega)) (fun c_23 => ?_) (fun c_23 => ?_)
            · exact key
            · omega
    · refine wa_iload_n dX4_stands_2 rfl ?_
      refine wa_aload_n dX4_stands_3 rfl ?_
      refine wt_getI dX4_stands_4 FX4_68 (by assumption) ?_
      try simp only [fp0, fp1, fp2, fp3, fp4, vup_s, hl]
      refine wa_icmp_ge 136 dX4_stands_7 (by decide) (by first | exact ⟨by omega, by omega⟩ | exact hI' _ _ (by omega)) (by first | exact ⟨by omega, by omega⟩ | exact hI' _ _ (by omega)) (fun c_7 => ?_) (fun c_7 => ?_)
      · omega
      · refine wa_iload_n dX4_stands_10 rfl ?_
        refine wa_bipush dX4_stands_11 rfl ?_
        refine wa_icmp_ge 136 dX4_stands_13 (by decide) (by first | exact ⟨by omega, by omega⟩ | exact hI' _ _ (by omega)) (by first | exact ⟨by omega, by omega⟩ | exact hI' _ _ (by omega)) (fun c_13 => ?_) (fun c_13 => ?_)
        · omega
        · refine wa_aload_n dX4_stands_16 rfl ?_
          refine wt_getR dX4_stands_17 FX4_147 (by assumption) (by assumption) ?_
          refine wa_iload_n dX4_stands_20 rfl ?_
          refine wt_iald _ dX4_stands_21 (by assumption) rfl (by omega) ?_
          try simp only [fp0, fp1, fp2, fp3, fp4, vup_s, hl]
          refine wa_iload_n dX4_stands_22 rfl ?_
          refine wa_icmp_eq 29 dX4_stands_23 (by decide) (by first | exact ⟨by omega, by omega⟩ | exact hI' _ _ (by omega)) (by first | exact ⟨by omega, by omega⟩ | exact hI' _ _ (by omega)) (fun c_23 => ?_) (fun c_23 => ?_)
          · omega
          · refine wa_goto 130 dX4_stands_26 (by decide) ?_
            refine wa_iinc dX4_stands_130 rfl (by decide) ?_
            refine wa_goto 2 dX4_stands_133 (by decide) ?_
            refine ih (i + 1) v _ (by omega) hv1 (fun j hj hjs => hv2 j hj ?_)
            rcases hjs with h | ⟨h1, h2⟩
            · exact Or.inl h
            · refine Or.inr ⟨h1, ?_⟩
              by_cases e : j = i
              · subst e; exact absurd h1 hst
              · omega
end S25
