/-! ===== 99u: the reference: does ===== -/
def DF (I J : Nat → Nat → Int) : Prop := (∀ a, a ≠ 168 → a ≠ 169 → a ≠ 173 → a ≠ 179 → a ≠ 180 → a ≠ 189 → J a = I a) ∧ (∀ k, k ≠ 20 → k ≠ 31 → k ≠ 32 → J 168 k = I 168 k) ∧ ∀ k, (k = 1 ∨ 252 ≤ k) → J 169 k = I 169 k
section S99u
variable {S : tmS} {I : Nat → Nat → Int} {L : Nat → Nat → Int64}
set_option maxRecDepth 20000 in
theorem c_mdoes (hL : LX S) {X : TS} (hX : XOK X) (hM : MT I X) {rl : RuL} (h6 : rl.length ≤ 6) (hok : RlOK rl) (hR : MRl (I 169) rl) (htr : RlT rl) {e : E6} {r k : Nat} (her : e.1 = (r : Int)) (hk : k < 200) (he : EG X.1 rl e) (hf : ∀ l, l < 3 → I 186 (1000 * r + 5 * k + l) = tmPart 0 e.2.1 e.2.2.1 e.2.2.2.1 0 0 l ∧ -1 ≤ tmPart 0 e.2.1 e.2.2.1 e.2.2.2.1 0 0 l ∧ tmPart 0 e.2.1 e.2.2.1 e.2.2.2.1 0 0 l < X.1) (hf3 : I 186 (1000 * r + 5 * k + 3) = e.2.2.2.2.1) (hf4 : I 186 (1000 * r + 5 * k + 4) = e.2.2.2.2.2) {C : Nat → Int} (hC : ∀ j, j < 5 → I 173 j = C j ∧ 0 ≤ C j ∧ C j ≤ 90000) :
    tmC yX12_does kX12_does 6 0 0 [tR 168, tI r, tI k] (S, I, L) (fun q h' => q = some (tI (doX rl e X C).2.2) ∧ ∃ I', h' = (S, I', L) ∧ MT I' (doX rl e X C).1 ∧ (∀ j, j < 5 → I' 173 j = (doX rl e X C).2.1 j) ∧ DF I I') := by
  refine tmC.mk (lv := [some (tR 168), some (tI r), some (tI k), none, none, none, none, none]) 5 ⟨rfl, by decide +kernel, by decide⟩ rfl rfl ?_
  have o168 := oX168 hL
  have r168_0 := rX168_0 hL
  have r168_1 := rX168_1 hL
  have r168_3 := rX168_3 hL
  have r168_4 := rX168_4 hL
  have r168_5 := rX168_5 hL
  have r168_6 := rX168_6 hL
  have r168_7 := rX168_7 hL
  have r168_8 := rX168_8 hL
  have r168_11 := rX168_11 hL
  have r168_13 := rX168_13 hL
  have r168_17 := rX168_17 hL
  have r168_18 := rX168_18 hL
  have r168_19 := rX168_19 hL
  have r168_21 := rX168_21 hL
  have r168_22 := rX168_22 hL
  have r168_23 := rX168_23 hL
  have r168_24 := rX168_24 hL
  have r168_25 := rX168_25 hL
  have r168_26 := rX168_26 hL
  have r168_27 := rX168_27 hL
  have r168_28 := rX168_28 hL
  have r168_29 := rX168_29 hL
  have r168_30 := rX168_30 hL
  have o169 := oX169 hL
  have o173 := oX173 hL
  have o186 := oX186 hL
  have h50 := hX.1.1
  have e0 := hM.1
  have hr : r < rl.length := by have := he.1; omega
  have ert : e.1.toNat = r := by omega
  obtain ⟨g1, g2, g3, g4⟩ := id he
  rw [ert] at g4
  have hmw := hR.mw h6 hok hr
  obtain ⟨w1, w2, w3, w4, w5, w6, w7, w8⟩ := id hmw
  obtain ⟨b, hb⟩ : ∃ b : Nat, b = 1000 * r + 5 * k := ⟨_, rfl⟩
  rw [← hb] at hf hf3 hf4
  have hb6 : b + 5 ≤ 6000 := by omega
  have eb : 1000 * (r : Int) + 5 * (k : Int) = (b : Int) := by omega
  have ncl := nCls_le X.1 X.2.2.2.2.2
  have kn := c_mnCls (I := I) (L := L) hL hM h50 (Nat.le_refl X.1)
  have tre := (htr.at hr).2.ok
  generalize hQ : (fun (q : Option tmV) (h' : tmH) => q = some (tI (doX rl e X C).2.2) ∧ ∃ I', h' = (S, I', L) ∧ MT I' (doX rl e X C).1 ∧ (∀ j, j < 5 → I' 173 j = (doX rl e X C).2.1 j) ∧ DF I I') = Q
  -- behind builds
  have beh : ∀ (J W : Nat → Nat → Int), (∀ a, a ≠ 168 → a ≠ 189 → J a = I a) → (∀ x, x ≠ 20 → x ≠ 32 → J 168 x = I 168 x) → (∀ l, l < 3 → J 189 l = tmHome X.1 X.2.2.2.2.2 (tmPart 0 e.2.1 e.2.2.1 e.2.2.2.1 0 0 l)) → MT W (bT false (J 189) e.2.2.2.2.2 (rlR rl r) [] (-1) X false).2.2.1 → W 168 20 = ovI (bT false (J 189) e.2.2.2.2.2 (rlR rl r) [] (-1) X false).2.2.2 → BF J W → tmW kX12_does 6 0 0 132 [some (tR 168), some (tI r), some (tI k), some (tI b), some (tI X.1), some (tI (nCls X.1 X.2.2.2.2.2 : Nat)), some (tI (3 : Nat)), none] [tI (bT false (J 189) e.2.2.2.2.2 (rlR rl r) [] (-1) X false).2.1] (S, W, L) Q := fun J W j1 j2 j3 m1 m2 m3 => by
    have hlt : ∀ s ∈ rlR rl r, 7 ≤ s → J 189 (s - 7).toNat = ltOf X.1 X.2.2.2.2.2 e.2.1 e.2.2.1 e.2.2.2.1 (s - 7).toNat := fun s hs h7 => by
      have := w8 s hs
      exact j3 _ (by omega)
    rw [bT_lt _ _ _ _ _ hlt] at m1 m2 ⊢
    have hl2 : ∀ s ∈ rlR rl r, 7 ≤ s → 0 ≤ ltOf X.1 X.2.2.2.2.2 e.2.1 e.2.2.1 e.2.2.2.1 (s - 7).toNat ∧ ltOf X.1 X.2.2.2.2.2 e.2.1 e.2.2.1 e.2.2.2.1 (s - 7).toNat < X.1 := fun s hs h7 => by
      have := g4 s hs h7
      unfold ltOf
      rw [tmHome_in this]
      have := hX.1.2.2.1 _ (show (tmPart 0 e.2.1 e.2.2.1 e.2.2.2.1 0 0 (s - 7).toNat).toNat < X.1 by omega)
      omega
    have lk := bT_bW (lt := ltOf X.1 X.2.2.2.2.2 e.2.1 e.2.2.1 e.2.2.2.1) (g := e.2.2.2.2.2) (rlR rl r) [] (-1) X [] (fun _ _ => rfl)
    have en := bT_end (y := false) (lt := ltOf X.1 X.2.2.2.2.2 e.2.1 e.2.2.1 e.2.2.2.1) (g := e.2.2.2.2.2) (rlR rl r) [] (-1) X false tre.1 (fun p hp => by cases hp) h50 hl2 (Or.inl tre.2)
    have kp := bT_kp (lt := ltOf X.1 X.2.2.2.2.2 e.2.1 e.2.2.1 e.2.2.2.1) (g := e.2.2.2.2.2) (rlR rl r) [] (-1) X false
    have fr1 : ∀ a, a ≠ 168 → a ≠ 169 → a ≠ 179 → a ≠ 180 → a ≠ 189 → W a = I a := fun a a1 a2 a3 a4 a5 => by rw [m3.1 a a1 a2 a3 a4]; exact j1 a a1 a5
    have fr2 : ∀ x, x ≠ 20 → x ≠ 31 → x ≠ 32 → W 168 x = I 168 x := fun x x1 x2 x3 => by rw [m3.2.1 x x1 x2]; exact j2 x x1 x3
    have fr3 : ∀ x, (x = 1 ∨ 252 ≤ x) → W 169 x = I 169 x := fun x hx => by rw [m3.2.2 x hx, j1 169 (by decide) (by decide)]
    have w173 : W 173 = I 173 := fr1 173 (by decide) (by decide) (by decide) (by decide) (by decide)
    cases hbw : bW (ltOf X.1 X.2.2.2.2.2 e.2.1 e.2.2.1 e.2.2.2.1) e.2.2.2.2.2 (rlR rl r) [] X [] with
    | none =>
      rw [hbw] at lk
      simp only at lk
      rw [lk] at m2
      have m2' : W 168 20 = 1 := m2
      have ed : doX rl e X C = (X, va_up C 2 (C 2 + 1), 0) := by unfold doX; rw [ert, hbw]
      rw [ed] at hQ
      have c2 := hC 2 (by decide)
      have v2 : va_up W 169 (va_up (W 169) 0 (X.1 : Int)) 173 2 = C 2 := by rw [vup_n (by decide), w173]; exact c2.1
      have fin : Q (some (tI 0)) (S, va_up (va_up W 169 (va_up (W 169) 0 (X.1 : Int))) 173 (va_up (va_up W 169 (va_up (W 169) 0 (X.1 : Int)) 173) 2 (C 2 + 1)), L) := by
        rw [← hQ]
        refine ⟨rfl, _, rfl, (m1.back kp h50).row (vup_n (by decide)), fun j hj => ?_, ⟨fun a a1 a2 a3 a4 a5 a6 => by rw [vup_n a3, vup_n a2]; exact fr1 a a1 a2 a4 a5 a6, fun x x1 x2 x3 => by rw [vup_n (by decide), vup_n (by decide)]; exact fr2 x x1 x2 x3, fun x hx => by rw [vup_n (by decide), vup_s, vup_n (by omega)]; exact fr3 x hx⟩⟩
        rw [vup_s, vup_n (show 173 ≠ 169 by decide), w173]
        show va_up (I 173) 2 (C 2 + 1) j = va_up C 2 (C 2 + 1) j
        by_cases ej : j = 2
        · subst ej; rw [vup_s, vup_s]
        · rw [vup_n ej, vup_n ej]; exact (hC j hj).1
      generalize (bT false (ltOf X.1 X.2.2.2.2.2 e.2.1 e.2.2.1 e.2.2.2.1) e.2.2.2.2.2 (rlR rl r) [] (-1) X false).2.1 = tt
      refine wa_istore dX12_does_132 (by decide) ?_
      refine wa_aload_n dX12_does_134 rfl ?_
      refine wt_getZ dX12_does_135 FX12_91 (by assumption) ?_
      try first | rw [m2'] | skip
      refine wa_if_eq 161 dX12_does_138 (by decide) (by exact ⟨by omega, by omega⟩) (fun c_138 => ?_) (fun c_138 => ?_)
      · omega
      · refine wa_aload_n dX12_does_141 rfl ?_
        refine wt_getR dX12_does_142 FX12_7 (by assumption) (by assumption) ?_
        refine wa_iconst dX12_does_145 ?_
        refine wa_iload dX12_does_146 rfl ?_
        refine wt_iast 0 dX12_does_148 (by assumption) rfl (by omega) (by exact ⟨by omega, by omega⟩) ?_
        refine wa_aload_n dX12_does_149 rfl ?_
        refine wt_getR dX12_does_150 FX12_22 (by assumption) (by assumption) ?_
        refine wa_iconst dX12_does_153 ?_
        refine wa_dup2 dX12_does_154 rfl rfl ?_
        refine wt_iald 2 dX12_does_155 (by assumption) rfl (by omega) ?_
        try first | rw [m2'] | skip
        rw [v2]
        refine wa_iconst dX12_does_156 ?_
        refine wa_iadd dX12_does_157 ?_
        refine wt_iast 2 dX12_does_158 (by assumption) rfl (by omega) (by exact ⟨by omega, by omega⟩) ?_
        refine wa_iconst dX12_does_159 ?_
        refine wa_zreturn dX12_does_160 rfl (Or.inl rfl) ?_
        exact fin
    | some o =>
      rw [hbw] at lk
      obtain ⟨l1, l2, l3⟩ := lk
      have l4 := l3 en
      rw [l2] at m2
      have m2' : W 168 20 = 0 := m2
      obtain ⟨y1, y2, y3, y4, y5⟩ := bR_ok (X1 := o.1) (ms := o.2) hX.1 hok he (by rw [ert]; exact hbw)
      have hne := bW_ne _ _ _ _ _ _ hbw (Or.inr (hok.at hr).2.2.2.1)
      have hin := lastI_in y5 hne
      have elz : lastZ o.2 = ((lastI o.2 : Nat) : Int) := by
        have : lastZ o.2 ∈ o.2 := by
          unfold lastZ
          rw [List.getLastD_eq_getLast?, List.getLast?_eq_some_getLast hne]
          exact List.getLast_mem hne
        have := y5 _ this
        unfold lastI
        show lastZ o.2 = (((lastZ o.2).toNat : Nat) : Int)
        omega
      rw [l4, elz]
      rw [l1] at m1
      have hn : X.1 ≤ o.1.1 := by have := kp.1; rw [l1] at this; exact this
      have ed : doX rl e X C = (clX (jnX o.1 (lastI o.2) e.2.2.2.2.1.toNat), (fun j => if j = 0 then C 0 + 1 else if j = 3 then C 3 + ((o.1.1 : Int) - X.1) else if j = 4 then C 4 + (if nCls X.1 (clX (jnX o.1 (lastI o.2) e.2.2.2.2.1.toNat)).2.2.2.2.2 < nCls X.1 X.2.2.2.2.2 then 1 else 0) else C j), (if X.1 < o.1.1 ∨ nCls X.1 (clX (jnX o.1 (lastI o.2) e.2.2.2.2.1.toNat)).2.2.2.2.2 < nCls X.1 X.2.2.2.2.2 then 1 else 0)) := by unfold doX; rw [ert, hbw]
      rw [ed] at hQ
      have md := mdoes_mid (I := W) (L := L) hL m1 y1 (n := X.1) hn (r := (r : Int)) (k := (k : Int)) (b := b) (t := lastI o.2) (p := e.2.2.2.2.1.toNat) hb6 y4 (by omega) (by rw [fr1 186 (by decide) (by decide) (by decide) (by decide) (by decide), hf3]; omega) (c0 := nCls X.1 X.2.2.2.2.2) (by omega) (fun j hj => by rw [w173, (hC j hj).1]; exact (hC j hj).2)
      have md2 := md.wk (Q2 := Q) (fun q h' hq => by
        obtain ⟨rfl, N, rfl, n1, ⟨z0, z1, z2, z3, z4⟩, n3, n4⟩ := hq
        rw [w173] at z0 z1 z2 z3 z4
        rw [(hC 0 (by decide)).1] at z0
        rw [(hC 1 (by decide)).1] at z1
        rw [(hC 2 (by decide)).1] at z2
        rw [(hC 3 (by decide)).1] at z3
        rw [(hC 4 (by decide)).1] at z4
        rw [← hQ]
        refine ⟨rfl, N, rfl, n1, fun j hj => ?_, ⟨fun a a1 a2 a3 a4 a5 a6 => by rw [n3 a a2 a3]; exact fr1 a a1 a2 a4 a5 a6, fun x x1 x2 x3 => by rw [n3 168 (by decide) (by decide)]; exact fr2 x x1 x2 x3, fun x hx => by rw [n4 x hx]; exact fr3 x hx⟩⟩
        rcases (by omega : j = 0 ∨ j = 1 ∨ j = 2 ∨ j = 3 ∨ j = 4) with rfl | rfl | rfl | rfl | rfl
        · exact z0
        · exact z1
        · exact z2
        · exact z3
        · exact z4)
      refine wa_istore dX12_does_132 (by decide) ?_
      refine wa_aload_n dX12_does_134 rfl ?_
      refine wt_getZ dX12_does_135 FX12_91 (by assumption) ?_
      try first | rw [m2'] | skip
      refine wa_if_eq 161 dX12_does_138 (by decide) (by exact ⟨by omega, by omega⟩) (fun c_138 => ?_) (fun c_138 => ?_)
      · exact md2
      · omega
  have st := mdoes_st (I := I) (L := L) hL h50 hX.1.2.2.1 hM (r := r) (k := k) (b := b) hb6 hf (a4 := (X.1 : Int)) (a5 := (nCls X.1 X.2.2.2.2.2 : Nat)) Q 3 0 I (by omega) (fun _ _ => rfl) (fun l hl => by omega) (fun J' h1 h2 => by
    generalize hJ : va_up J' 168 (va_up (va_up (J' 168) 20 0) 32 0) = J
    have j1 : ∀ a, a ≠ 168 → a ≠ 189 → J a = I a := fun a a1 a2 => by rw [← hJ, vup_n a1]; exact h1 a a2
    have j2 : ∀ x, x ≠ 20 → x ≠ 32 → J 168 x = I 168 x := fun x x1 x2 => by rw [← hJ, vup_s, vup_n x2, vup_n x1, h1 168 (by decide)]
    have j3 : ∀ l, l < 3 → J 189 l = tmHome X.1 X.2.2.2.2.2 (tmPart 0 e.2.1 e.2.2.1 e.2.2.2.1 0 0 l) := fun l hl => by rw [← hJ, vup_n (by decide)]; exact h2 l hl
    have e9 := j1 169 (by decide) (by decide)
    have q1 : J 169 (252 + r) = ((rlL rl r).length : Int) := by rw [e9]; exact w3
    have q2 : J 169 (258 + r) = ((rlR rl r).length : Int) := by rw [e9]; exact w4
    have q3 : J 186 (b + 4) = e.2.2.2.2.2 := by rw [j1 186 (by decide) (by decide)]; exact hf4
    have efr : 264 + 120 * (r : Int) + ((rlL rl r).length : Int) = ((264 + 120 * r + (rlL rl r).length : Nat) : Int) := by omega
    have kb := c_mbuilds (I := J) (L := L) hL (y := false) (g := e.2.2.2.2.2) ⟨by omega, by omega⟩ (ρ := 169) o169 (fr := 264 + 120 * r + (rlL rl r).length) (W := rlR rl r) (by omega) (by omega) (by omega) w8 (fun K hK i hi => by rw [hK.2.2 _ (by omega), e9]; exact w6 i hi) (X := X) h50 (fun s hs h7 => by
      have z9 := w8 s hs
      rw [j3 _ (by omega)]
      have := g4 s hs h7
      rw [tmHome_in this]
      have := hX.1.2.2.1 _ (show (tmPart 0 e.2.1 e.2.2.1 e.2.2.2.1 0 0 (s - 7).toNat).toNat < X.1 by omega)
      omega) (ov := false) (hM.row e9) (by rw [← hJ, vup_s, vup_n (by decide), vup_s]; rfl) (by rw [← hJ, vup_s, vup_s]; rfl)
    refine wa_aload_n dX12_does_77 rfl ?_
    refine wa_iconst dX12_does_78 ?_
    refine wt_putZ dX12_does_79 FX12_91 (WX12_20 _ _) (by assumption) (by first | exact Or.inl rfl | exact Or.inr rfl) ?_
    refine wa_aload_n dX12_does_82 rfl ?_
    refine wa_iconst dX12_does_83 ?_
    refine wt_putZ dX12_does_84 FX12_172 (WX12_32 _ _) (by assumption) (by first | exact Or.inl rfl | exact Or.inr rfl) ?_
    rw [vup_s, vup_vup, hJ]
    refine wa_aload_n dX12_does_87 rfl ?_
    refine wa_aload_n dX12_does_88 rfl ?_
    refine wt_getR dX12_does_89 FX12_7 (by assumption) (by assumption) ?_
    refine wa_sipush dX12_does_92 rfl ?_
    refine wa_bipush dX12_does_95 rfl ?_
    refine wa_iload_n dX12_does_97 rfl ?_
    refine wa_imul dX12_does_98 ?_
    refine wa_iadd dX12_does_99 ?_
    refine wa_aload_n dX12_does_100 rfl ?_
    refine wt_getR dX12_does_101 FX12_7 (by assumption) (by assumption) ?_
    refine wa_sipush dX12_does_104 rfl ?_
    refine wa_iload_n dX12_does_107 rfl ?_
    refine wa_iadd dX12_does_108 ?_
    refine wt_iald (252 + r) dX12_does_109 (by assumption) (by omega) (by omega) ?_
    rw [q1]
    refine wa_iadd dX12_does_110 ?_
    refine wa_aload_n dX12_does_111 rfl ?_
    refine wt_getR dX12_does_112 FX12_7 (by assumption) (by assumption) ?_
    refine wa_sipush dX12_does_115 rfl ?_
    refine wa_iload_n dX12_does_118 rfl ?_
    refine wa_iadd dX12_does_119 ?_
    refine wt_iald (258 + r) dX12_does_120 (by assumption) (by omega) (by omega) ?_
    rw [q2]
    refine wa_aload_n dX12_does_121 rfl ?_
    refine wt_getR dX12_does_122 FX12_61 (by assumption) (by assumption) ?_
    refine wa_iload_n dX12_does_125 rfl ?_
    refine wa_iconst dX12_does_126 ?_
    refine wa_iadd dX12_does_127 ?_
    refine wt_iald (b + 4) dX12_does_128 (by assumption) (by omega) (by omega) ?_
    rw [q3, efr]
    refine wa_callV (ci := 12) dX12_does_129 KX12_builds LX12_178 ⟨_, _, rfl, by decide⟩ o168 (kb) (by decide) rfl (Nat.le_of_ble_eq_true rfl) rfl rfl (fun r h' hq => ?_)
    obtain ⟨rfl, W, rfl, m1, m2, m3⟩ := hq
    exact beh J W j1 j2 j3 m1 m2 m3
    )
  refine wa_sipush dX12_does_0 rfl ?_
  refine wa_iload_n dX12_does_3 rfl ?_
  refine wa_imul dX12_does_4 ?_
  refine wa_iconst dX12_does_5 ?_
  refine wa_iload_n dX12_does_6 rfl ?_
  refine wa_imul dX12_does_7 ?_
  refine wa_iadd dX12_does_8 ?_
  rw [eb]
  refine wa_istore_n dX12_does_9 (by decide) ?_
  refine wa_aload_n dX12_does_10 rfl ?_
  refine wt_getR dX12_does_11 FX12_7 (by assumption) (by assumption) ?_
  refine wa_iconst dX12_does_14 ?_
  refine wt_iald 0 dX12_does_15 (by assumption) rfl (by omega) ?_
  try first | rw [e0] | skip
  refine wa_istore dX12_does_16 (by decide) ?_
  refine wa_aload_n dX12_does_18 rfl ?_
  refine wa_iload dX12_does_19 rfl ?_
  refine wa_callVf (ci := 12) dX12_does_21 KX12_classesOf LX12_126 ⟨_, _, rfl, by decide⟩ o168 (kn) (by decide) rfl rfl (Nat.le_of_ble_eq_true rfl) rfl rfl ?_
  refine wa_istore dX12_does_24 (by decide) ?_
  refine wa_iconst dX12_does_26 ?_
  refine wa_istore dX12_does_27 (by decide) ?_
  exact st
end S99u
