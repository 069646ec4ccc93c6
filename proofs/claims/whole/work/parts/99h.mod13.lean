/-! ===== 99h: the reference: finds ===== -/
section S99h
variable {S : tmS} {I : Nat → Nat → Int} {L : Nat → Nat → Int64}
/-- FINDINGS of r have come; all else stands -/
def FS (I J : Nat → Nat → Int) (r : Nat) (T : List E6) : Prop := FdFr I J ∧ (∀ x, x ≠ r → J 187 x = I 187 x) ∧ (∀ x, (x < 1000 * r ∨ 1000 * r + 1000 ≤ x) → J 186 x = I 186 x) ∧ FM J r T
abbrev ClP (n : Nat) (ho : Nat → Int) : Int → Prop := fun x => 0 ≤ x ∧ x < n ∧ ho x.toNat = x
/-- what finds asks -/
def FdP (I : Nat → Nat → Int) (n : Nat) (ho : Nat → Int) (r : Nat) (wl wr : List Int) : Prop := LkP I (ClP n ho) r wl wr ∧ n ≤ 50 ∧ (∀ t, t < n → I 169 (202 + t) = ho t) ∧ (∀ t, t < n → inR (ho t)) ∧ letW wl < 8 ∧ I 169 0 = (n : Int)
set_option maxRecDepth 20000 in
theorem FdP.cg {J : Nat → Nat → Int} {n r : Nat} {ho : Nat → Int} {wl wr : List Int} (h : FdP I n ho r wl wr) (f : FdFr I J) : FdP J n ho r wl wr := by
  obtain ⟨a, b, c, d, e, g⟩ := h
  have e9 := f 169 (by decide) (by decide) (by decide) (by decide)
  exact ⟨a.cg f, b, by rw [e9]; exact c, d, e, by rw [e9]; exact g⟩
set_option maxRecDepth 20000 in
theorem okB_P {set n l : Nat} {ho : Nat → Int} {z : Int} (h : okB set ho l z = true) (hz : -1 ≤ z ∧ z < n) : z = -1 ∨ ClP n ho z := by
  unfold okB at h
  split at h
  · simp only [Bool.and_eq_true, decide_eq_true_eq] at h
    exact Or.inr ⟨h.1, hz.2, h.2⟩
  · simp only [decide_eq_true_eq] at h
    exact Or.inl (by omega)
set_option maxRecDepth 20000 in
theorem finds_z (hL : LX S) {n r : Nat} {ho : Nat → Int} {wl wr : List Int} (hp : FdP I n ho r wl wr) {x y : Int} (hx : x = -1 ∨ ClP n ho x) (hy : -1 ≤ y ∧ y < n) (hok : okB (letW wl) ho 1 y = true) (Q : Option tmV → tmH → Prop) : ∀ (j : Nat) (z : Int) (J : Nat → Nat → Int) (T : List E6), z + j = n → -1 ≤ z → FS I J r T →
    (∀ (J' : Nat → Nat → Int) (z' : Int), FS I J' r ((T ++ lpF (gZ (I 185) (plM I) wl r (letW wl) ho x y) j z).take 200) → tmW kX12_finds 4 0 0 139 [some (tR 168), some (tI r), some (tI (letW wl : Nat)), some (tI n), some (tI x), some (tI y), some (tI z')] [] (S, J', L) Q) →
    tmW kX12_finds 4 0 0 76 [some (tR 168), some (tI r), some (tI (letW wl : Nat)), some (tI n), some (tI x), some (tI y), some (tI z)] [] (S, J, L) Q := by
  intro j
  have o168 := oX168 hL
  have r168_0 := rX168_0 hL
  have r168_1 := rX168_1 hL
  have r168_3 := rX168_3 hL
  have r168_4 := rX168_4 hL
  have r168_5 := rX168_5 hL
  have r168_6 := rX168_6 hL
  have r168_7 := rX168_7 hL
  have r168_8 := rX168_8 hL
  have r168_11 := rX168_11 hL
  have r168_13 := rX168_13 hL
  have r168_17 := rX168_17 hL
  have r168_18 := rX168_18 hL
  have r168_19 := rX168_19 hL
  have r168_21 := rX168_21 hL
  have r168_22 := rX168_22 hL
  have r168_23 := rX168_23 hL
  have r168_24 := rX168_24 hL
  have r168_25 := rX168_25 hL
  have r168_26 := rX168_26 hL
  have r168_27 := rX168_27 hL
  have r168_28 := rX168_28 hL
  have r168_29 := rX168_29 hL
  have r168_30 := rX168_30 hL
  have o189 := oX189 hL
  have hn5 := hp.2.1
  have hr6 := hp.1.1.1
  have h9 : ∀ s ∈ wl, s ≤ 9 := fun s hs => (hp.1.1.2.2.2.2.2.2.1 s hs).2
  have hxb : -1 ≤ x ∧ x < n := by rcases hx with e | e <;> omega
  induction j with
  | zero =>
    intro z J T hz hz1 hs kk
    have := kk J z (by
      simp only [lpF, List.append_nil]
      rw [List.take_of_length_le hs.2.2.2.2.1]
      exact hs)
    refine wa_iload dX12_finds_76 rfl ?_
    refine wa_iload_n dX12_finds_78 rfl ?_
    refine wa_icmp_ge 139 dX12_finds_79 (by decide) (by exact ⟨by omega, by omega⟩) (by exact ⟨by omega, by omega⟩) (fun c_79 => ?_) (fun c_79 => ?_)
    · exact this
    · omega
  | succ j ih =>
    intro z J T hz hz1 hs kk
    obtain ⟨s1, s2, s3, s4⟩ := id hs
    obtain ⟨q1, q2, q3, q4, q5, q6⟩ := hp.cg s1
    have k1 := c_misStand (I := J) (L := L) hL q5 q2 q3 q4 (l := 1) (by decide) (l' := 1) rfl hy
    rw [if_pos hok] at k1
    have k2 := c_misStand (I := J) (L := L) hL q5 q2 q3 q4 (l := 2) (by decide) (l' := 2) rfl (z := z) ⟨hz1, by omega⟩
    simp only [lpF, gZ] at kk
    by_cases c : okB (letW wl) ho 2 z = true
    · rw [if_pos c] at kk k2
      generalize hV : va_up J 189 (va_up (va_up (va_up (J 189) 0 x) 1 y) 2 z) = V
      have gV : ∀ a, a ≠ 189 → V a = J a := fun a ha => by rw [← hV]; exact vup_n ha
      have v9 : V 189 = va_up (va_up (va_up (J 189) 0 x) 1 y) 2 z := by rw [← hV, vup_s]
      have v0 : V 189 0 = x := by rw [v9, vup_n (by decide), vup_n (by decide), vup_s]
      have v1 : V 189 1 = y := by rw [v9, vup_n (by decide), vup_s]
      have v2 : V 189 2 = z := by rw [v9, vup_s]
      have fV : FdFr I V := fun a a1 a2 a3 a4 => by rw [gV a a4]; exact s1 a a1 a2 a3 a4
      have km := c_meets (I := V) (L := L) hL (hp.cg fV).1 (fun l hl => by
        rcases (by omega : l = 0 ∨ l = 1 ∨ l = 2) with rfl | rfl | rfl
        · rw [v0]; exact hx
        · rw [v1]; exact okB_P hok hy
        · rw [v2]; exact okB_P c ⟨hz1, by omega⟩) (s4.cg (gV 187 (by decide)) (gV 186 (by decide)))
      have e5 : V 185 = I 185 := fV 185 (by decide) (by decide) (by decide) (by decide)
      have ep : plM V = plM I := plM_cg (fV 182 (by decide) (by decide) (by decide) (by decide)) (fV 183 (by decide) (by decide) (by decide) (by decide)) (fV 184 (by decide) (by decide) (by decide) (by decide))
      rw [e5, ep, metT_F3 h9 v0 v1 v2 s4.2.1] at km
      have nx : ∀ W : Nat → Nat → Int, FdFr V W → (∀ x, x ≠ r → W 187 x = V 187 x) → (∀ x, (x < 1000 * r ∨ 1000 * r + 1000 ≤ x) → W 186 x = V 186 x) → FM W r ((T ++ F3 (I 185) (plM I) wl r x y z).take 200) → tmW kX12_finds 4 0 0 76 [some (tR 168), some (tI r), some (tI (letW wl : Nat)), some (tI n), some (tI x), some (tI y), some (tI (z + 1))] [] (S, W, L) Q := fun W w1 w2 w3 w4 => by
        refine ih (z + 1) W _ (by omega) (by omega) ⟨fun a a1 a2 a3 a4 => by rw [w1 a a1 a2 a3 a4]; exact fV a a1 a2 a3 a4, fun k hk => by rw [w2 k hk, gV 187 (by decide)]; exact s2 k hk, fun k hk => by rw [w3 k hk, gV 186 (by decide)]; exact s3 k hk, w4⟩ (fun J' z' hJ' => ?_)
        rw [take_take_app, List.append_assoc] at hJ'
        exact kk J' z' hJ'
      refine wa_iload dX12_finds_76 rfl ?_
      refine wa_iload_n dX12_finds_78 rfl ?_
      refine wa_icmp_ge 139 dX12_finds_79 (by decide) (by exact ⟨by omega, by omega⟩) (by exact ⟨by omega, by omega⟩) (fun c_79 => ?_) (fun c_79 => ?_)
      · omega
      · refine wa_aload_n dX12_finds_82 rfl ?_
        refine wa_iload_n dX12_finds_83 rfl ?_
        refine wa_iconst dX12_finds_84 ?_
        refine wa_iload dX12_finds_85 rfl ?_
        refine wa_callVf (ci := 12) dX12_finds_87 KX12_isStand LX12_147 ⟨_, _, rfl, by decide⟩ o168 (k1) (by decide) rfl rfl (Nat.le_of_ble_eq_true rfl) rfl rfl ?_
        refine wa_if_eq 139 dX12_finds_90 (by decide) (by exact ⟨by omega, by omega⟩) (fun c_90 => ?_) (fun c_90 => ?_)
        · omega
        · refine wa_aload_n dX12_finds_93 rfl ?_
          refine wa_iload_n dX12_finds_94 rfl ?_
          refine wa_iconst dX12_finds_95 ?_
          refine wa_iload dX12_finds_96 rfl ?_
          refine wa_callVf (ci := 12) dX12_finds_98 KX12_isStand LX12_147 ⟨_, _, rfl, by decide⟩ o168 (k2) (by decide) rfl rfl (Nat.le_of_ble_eq_true rfl) rfl rfl ?_
          refine wa_if_eq 133 dX12_finds_101 (by decide) (by exact ⟨by omega, by omega⟩) (fun c_101 => ?_) (fun c_101 => ?_)
          · omega
          · refine wa_aload_n dX12_finds_104 rfl ?_
            refine wt_getR dX12_finds_105 FX12_70 (by assumption) (by assumption) ?_
            refine wa_iconst dX12_finds_108 ?_
            refine wa_iload dX12_finds_109 rfl ?_
            refine wt_iast 0 dX12_finds_111 (by assumption) rfl (by omega) (by exact ⟨by omega, by omega⟩) ?_
            refine wa_aload_n dX12_finds_112 rfl ?_
            refine wt_getR dX12_finds_113 FX12_70 (by assumption) (by assumption) ?_
            refine wa_iconst dX12_finds_116 ?_
            refine wa_iload dX12_finds_117 rfl ?_
            refine wt_iast 1 dX12_finds_119 (by assumption) rfl (by omega) (by exact ⟨by omega, by omega⟩) ?_
            rw [vup_s, vup_vup]
            refine wa_aload_n dX12_finds_120 rfl ?_
            refine wt_getR dX12_finds_121 FX12_70 (by assumption) (by assumption) ?_
            refine wa_iconst dX12_finds_124 ?_
            refine wa_iload dX12_finds_125 rfl ?_
            refine wt_iast 2 dX12_finds_127 (by assumption) rfl (by omega) (by exact ⟨by omega, by omega⟩) ?_
            rw [vup_s, vup_vup, hV]
            refine wa_aload_n dX12_finds_128 rfl ?_
            refine wa_iload_n dX12_finds_129 rfl ?_
            refine wa_callV (ci := 12) dX12_finds_130 KX12_meets LX12_150 ⟨_, _, rfl, by decide⟩ o168 (km) (by decide) rfl (Nat.le_of_ble_eq_true rfl) rfl rfl (fun r h' hq => ?_)
            obtain ⟨rfl, W, rfl, w1, _, w2, w3, w4⟩ := hq
            refine wa_iinc dX12_finds_133 rfl (by decide) ?_
            refine wa_goto 76 dX12_finds_136 (by decide) ?_
            exact nx W w1 w2 w3 w4
    · rw [if_neg c] at kk k2
      rw [List.nil_append] at kk
      have nx := ih (z + 1) J T (by omega) (by omega) hs kk
      refine wa_iload dX12_finds_76 rfl ?_
      refine wa_iload_n dX12_finds_78 rfl ?_
      refine wa_icmp_ge 139 dX12_finds_79 (by decide) (by exact ⟨by omega, by omega⟩) (by exact ⟨by omega, by omega⟩) (fun c_79 => ?_) (fun c_79 => ?_)
      · omega
      · refine wa_aload_n dX12_finds_82 rfl ?_
        refine wa_iload_n dX12_finds_83 rfl ?_
        refine wa_iconst dX12_finds_84 ?_
        refine wa_iload dX12_finds_85 rfl ?_
        refine wa_callVf (ci := 12) dX12_finds_87 KX12_isStand LX12_147 ⟨_, _, rfl, by decide⟩ o168 (k1) (by decide) rfl rfl (Nat.le_of_ble_eq_true rfl) rfl rfl ?_
        refine wa_if_eq 139 dX12_finds_90 (by decide) (by exact ⟨by omega, by omega⟩) (fun c_90 => ?_) (fun c_90 => ?_)
        · omega
        · refine wa_aload_n dX12_finds_93 rfl ?_
          refine wa_iload_n dX12_finds_94 rfl ?_
          refine wa_iconst dX12_finds_95 ?_
          refine wa_iload dX12_finds_96 rfl ?_
          refine wa_callVf (ci := 12) dX12_finds_98 KX12_isStand LX12_147 ⟨_, _, rfl, by decide⟩ o168 (k2) (by decide) rfl rfl (Nat.le_of_ble_eq_true rfl) rfl rfl ?_
          refine wa_if_eq 133 dX12_finds_101 (by decide) (by exact ⟨by omega, by omega⟩) (fun c_101 => ?_) (fun c_101 => ?_)
          · refine wa_iinc dX12_finds_133 rfl (by decide) ?_
            refine wa_goto 76 dX12_finds_136 (by decide) ?_
            exact nx
          · omega
set_option maxRecDepth 20000 in
theorem take_full {T A : List E6} (h : T.length = 200) : (T ++ A).take 200 = T := by rw [List.take_append_of_le_length (by omega), List.take_of_length_le (by omega)]
set_option maxRecDepth 20000 in
theorem finds_y (hL : LX S) {n r : Nat} {ho : Nat → Int} {wl wr : List Int} (hp : FdP I n ho r wl wr) {x : Int} (hx : x = -1 ∨ ClP n ho x) (hok : okB (letW wl) ho 0 x = true) (Q : Option tmV → tmH → Prop) : ∀ (j : Nat) (y : Int) (J : Nat → Nat → Int) (T : List E6) (a6 : Option tmV), y + j = n → -1 ≤ y → FS I J r T →
    (∀ (J' : Nat → Nat → Int) (y' : Int) (a6' : Option tmV), FS I J' r ((T ++ lpF (gY (I 185) (plM I) wl r (letW wl) ho n x) j y).take 200) → tmW kX12_finds 4 0 0 145 [some (tR 168), some (tI r), some (tI (letW wl : Nat)), some (tI n), some (tI x), some (tI y'), a6'] [] (S, J', L) Q) →
    tmW kX12_finds 4 0 0 44 [some (tR 168), some (tI r), some (tI (letW wl : Nat)), some (tI n), some (tI x), some (tI y), a6] [] (S, J, L) Q := by
  intro j
  have o168 := oX168 hL
  have r168_0 := rX168_0 hL
  have r168_1 := rX168_1 hL
  have r168_3 := rX168_3 hL
  have r168_4 := rX168_4 hL
  have r168_5 := rX168_5 hL
  have r168_6 := rX168_6 hL
  have r168_7 := rX168_7 hL
  have r168_8 := rX168_8 hL
  have r168_11 := rX168_11 hL
  have r168_13 := rX168_13 hL
  have r168_17 := rX168_17 hL
  have r168_18 := rX168_18 hL
  have r168_19 := rX168_19 hL
  have r168_21 := rX168_21 hL
  have r168_22 := rX168_22 hL
  have r168_23 := rX168_23 hL
  have r168_24 := rX168_24 hL
  have r168_25 := rX168_25 hL
  have r168_26 := rX168_26 hL
  have r168_27 := rX168_27 hL
  have r168_28 := rX168_28 hL
  have r168_29 := rX168_29 hL
  have r168_30 := rX168_30 hL
  have o187 := oX187 hL
  have hn5 := hp.2.1
  have hr6 := hp.1.1.1
  have hxb : -1 ≤ x ∧ x < n := by rcases hx with e | e <;> omega
  induction j with
  | zero =>
    intro y J T a6 hy hy1 hs kk
    have := kk J y a6 (by
      simp only [lpF, List.append_nil]
      rw [List.take_of_length_le hs.2.2.2.2.1]
      exact hs)
    refine wa_iload dX12_finds_44 rfl ?_
    refine wa_iload_n dX12_finds_46 rfl ?_
    refine wa_icmp_ge 145 dX12_finds_47 (by decide) (by exact ⟨by omega, by omega⟩) (by exact ⟨by omega, by omega⟩) (fun c_47 => ?_) (fun c_47 => ?_)
    · exact this
    · omega
  | succ j ih =>
    intro y J T a6 hy hy1 hs kk
    obtain ⟨s1, s2, s3, s4⟩ := id hs
    have s5 := s4.1
    have s6 := s4.2.1
    obtain ⟨q1, q2, q3, q4, q5, q6⟩ := hp.cg s1
    have k0 := c_misStand (I := J) (L := L) hL q5 q2 q3 q4 (l := 0) (by decide) (l' := 0) rfl hxb
    rw [if_pos hok] at k0
    by_cases cf : T.length = 200
    · have := kk J y a6 (by rw [take_full cf]; exact hs)
      refine wa_iload dX12_finds_44 rfl ?_
      refine wa_iload_n dX12_finds_46 rfl ?_
      refine wa_icmp_ge 145 dX12_finds_47 (by decide) (by exact ⟨by omega, by omega⟩) (by exact ⟨by omega, by omega⟩) (fun c_47 => ?_) (fun c_47 => ?_)
      · omega
      · refine wa_aload_n dX12_finds_50 rfl ?_
        refine wa_iload_n dX12_finds_51 rfl ?_
        refine wa_iconst dX12_finds_52 ?_
        refine wa_iload dX12_finds_53 rfl ?_
        refine wa_callVf (ci := 12) dX12_finds_55 KX12_isStand LX12_147 ⟨_, _, rfl, by decide⟩ o168 (k0) (by decide) rfl rfl (Nat.le_of_ble_eq_true rfl) rfl rfl ?_
        refine wa_if_eq 145 dX12_finds_58 (by decide) (by exact ⟨by omega, by omega⟩) (fun c_58 => ?_) (fun c_58 => ?_)
        · omega
        · refine wa_aload_n dX12_finds_61 rfl ?_
          refine wt_getR dX12_finds_62 FX12_64 (by assumption) (by assumption) ?_
          refine wa_iload_n dX12_finds_65 rfl ?_
          refine wt_iald r dX12_finds_66 (by assumption) rfl (by omega) ?_
          try first | rw [s5] | skip
          refine wa_sipush dX12_finds_67 rfl ?_
          refine wa_icmp_ge 145 dX12_finds_70 (by decide) (by exact ⟨by omega, by omega⟩) (by exact ⟨by omega, by omega⟩) (fun c_70 => ?_) (fun c_70 => ?_)
          · exact this
          · omega
    · simp only [lpF] at kk
      have z1 : tmW kX12_finds 4 0 0 76 [some (tR 168), some (tI r), some (tI (letW wl : Nat)), some (tI n), some (tI x), some (tI y), some (tI (-1))] [] (S, J, L) Q := by
        have nx : ∀ (J' : Nat → Nat → Int) (z' : Int), FS I J' r ((T ++ gY (I 185) (plM I) wl r (letW wl) ho n x y).take 200) → tmW kX12_finds 4 0 0 139 [some (tR 168), some (tI r), some (tI (letW wl : Nat)), some (tI n), some (tI x), some (tI y), some (tI z')] [] (S, J', L) Q := fun J' z' hJ' => by
          have nx := ih (y + 1) J' _ (some (tI z')) (by omega) (by omega) hJ' (fun J2 y2 a2 h2 => by
            rw [take_take_app, List.append_assoc] at h2
            exact kk J2 y2 a2 h2)
          refine wa_iinc dX12_finds_139 rfl (by decide) ?_
          refine wa_goto 44 dX12_finds_142 (by decide) ?_
          exact nx
        by_cases c : okB (letW wl) ho 1 y = true
        · refine finds_z hL hp hx ⟨hy1, by omega⟩ c Q (n + 1) (-1) J T (by omega) (by omega) hs (fun J' z' hJ' => nx J' z' ?_)
          unfold gY
          rw [if_pos c]
          exact hJ'
        · have nx0 := nx J (-1) (by
            unfold gY
            rw [if_neg c, List.append_nil, List.take_of_length_le s6]
            exact hs)
          have k1 := c_misStand (I := J) (L := L) hL q5 q2 q3 q4 (l := 1) (by decide) (l' := 1) rfl (z := y) ⟨hy1, by omega⟩
          rw [if_neg c] at k1
          refine wa_iload dX12_finds_76 rfl ?_
          refine wa_iload_n dX12_finds_78 rfl ?_
          refine wa_icmp_ge 139 dX12_finds_79 (by decide) (by exact ⟨by omega, by omega⟩) (by exact ⟨by omega, by omega⟩) (fun c_79 => ?_) (fun c_79 => ?_)
          · omega
          · refine wa_aload_n dX12_finds_82 rfl ?_
            refine wa_iload_n dX12_finds_83 rfl ?_
            refine wa_iconst dX12_finds_84 ?_
            refine wa_iload dX12_finds_85 rfl ?_
            refine wa_callVf (ci := 12) dX12_finds_87 KX12_isStand LX12_147 ⟨_, _, rfl, by decide⟩ o168 (k1) (by decide) rfl rfl (Nat.le_of_ble_eq_true rfl) rfl rfl ?_
            refine wa_if_eq 139 dX12_finds_90 (by decide) (by exact ⟨by omega, by omega⟩) (fun c_90 => ?_) (fun c_90 => ?_)
            · exact nx0
            · omega
      refine wa_iload dX12_finds_44 rfl ?_
      refine wa_iload_n dX12_finds_46 rfl ?_
      refine wa_icmp_ge 145 dX12_finds_47 (by decide) (by exact ⟨by omega, by omega⟩) (by exact ⟨by omega, by omega⟩) (fun c_47 => ?_) (fun c_47 => ?_)
      · omega
      · refine wa_aload_n dX12_finds_50 rfl ?_
        refine wa_iload_n dX12_finds_51 rfl ?_
        refine wa_iconst dX12_finds_52 ?_
        refine wa_iload dX12_finds_53 rfl ?_
        refine wa_callVf (ci := 12) dX12_finds_55 KX12_isStand LX12_147 ⟨_, _, rfl, by decide⟩ o168 (k0) (by decide) rfl rfl (Nat.le_of_ble_eq_true rfl) rfl rfl ?_
        refine wa_if_eq 145 dX12_finds_58 (by decide) (by exact ⟨by omega, by omega⟩) (fun c_58 => ?_) (fun c_58 => ?_)
        · omega
        · refine wa_aload_n dX12_finds_61 rfl ?_
          refine wt_getR dX12_finds_62 FX12_64 (by assumption) (by assumption) ?_
          refine wa_iload_n dX12_finds_65 rfl ?_
          refine wt_iald r dX12_finds_66 (by assumption) rfl (by omega) ?_
          try first | rw [s5] | skip
          refine wa_sipush dX12_finds_67 rfl ?_
          refine wa_icmp_ge 145 dX12_finds_70 (by decide) (by exact ⟨by omega, by omega⟩) (by exact ⟨by omega, by omega⟩) (fun c_70 => ?_) (fun c_70 => ?_)
          · omega
          · refine wa_iconst dX12_finds_73 ?_
            refine wa_istore dX12_finds_74 (by decide) ?_
            exact z1
set_option maxRecDepth 20000 in
theorem finds_x (hL : LX S) {n r : Nat} {ho : Nat → Int} {wl wr : List Int} (hp : FdP I n ho r wl wr) : ∀ (j : Nat) (x : Int) (J : Nat → Nat → Int) (T : List E6) (a5 a6 : Option tmV), x + j = n → -1 ≤ x → FS I J r T →
    tmW kX12_finds 4 0 0 23 [some (tR 168), some (tI r), some (tI (letW wl : Nat)), some (tI n), some (tI x), a5, a6] [] (S, J, L) (fun q h' => q = none ∧ ∃ I', h' = (S, I', L) ∧ FS I I' r ((T ++ lpF (gX (I 185) (plM I) wl r (letW wl) ho n) j x).take 200)) := by
  intro j
  have o168 := oX168 hL
  have r168_0 := rX168_0 hL
  have r168_1 := rX168_1 hL
  have r168_3 := rX168_3 hL
  have r168_4 := rX168_4 hL
  have r168_5 := rX168_5 hL
  have r168_6 := rX168_6 hL
  have r168_7 := rX168_7 hL
  have r168_8 := rX168_8 hL
  have r168_11 := rX168_11 hL
  have r168_13 := rX168_13 hL
  have r168_17 := rX168_17 hL
  have r168_18 := rX168_18 hL
  have r168_19 := rX168_19 hL
  have r168_21 := rX168_21 hL
  have r168_22 := rX168_22 hL
  have r168_23 := rX168_23 hL
  have r168_24 := rX168_24 hL
  have r168_25 := rX168_25 hL
  have r168_26 := rX168_26 hL
  have r168_27 := rX168_27 hL
  have r168_28 := rX168_28 hL
  have r168_29 := rX168_29 hL
  have r168_30 := rX168_30 hL
  have o187 := oX187 hL
  have hn5 := hp.2.1
  have hr6 := hp.1.1.1
  induction j with
  | zero =>
    intro x J T a5 a6 hx hx1 hs
    refine wa_iload dX12_finds_23 rfl ?_
    refine wa_iload_n dX12_finds_25 rfl ?_
    refine wa_icmp_ge 151 dX12_finds_26 (by decide) (by exact ⟨by omega, by omega⟩) (by exact ⟨by omega, by omega⟩) (fun c_26 => ?_) (fun c_26 => ?_)
    · refine wa_return dX12_finds_151 rfl ?_
      exact ⟨rfl, J, rfl, by
        simp only [lpF, List.append_nil]
        rw [List.take_of_length_le hs.2.2.2.2.1]
        exact hs⟩
    · omega
  | succ j ih =>
    intro x J T a5 a6 hx hx1 hs
    obtain ⟨s1, s2, s3, s4⟩ := id hs
    have s5 := s4.1
    have s6 := s4.2.1
    obtain ⟨q1, q2, q3, q4, q5, q6⟩ := hp.cg s1
    by_cases cf : T.length = 200
    · rw [take_full cf]
      refine wa_iload dX12_finds_23 rfl ?_
      refine wa_iload_n dX12_finds_25 rfl ?_
      refine wa_icmp_ge 151 dX12_finds_26 (by decide) (by exact ⟨by omega, by omega⟩) (by exact ⟨by omega, by omega⟩) (fun c_26 => ?_) (fun c_26 => ?_)
      · omega
      · refine wa_aload_n dX12_finds_29 rfl ?_
        refine wt_getR dX12_finds_30 FX12_64 (by assumption) (by assumption) ?_
        refine wa_iload_n dX12_finds_33 rfl ?_
        refine wt_iald r dX12_finds_34 (by assumption) rfl (by omega) ?_
        try first | rw [s5] | skip
        refine wa_sipush dX12_finds_35 rfl ?_
        refine wa_icmp_ge 151 dX12_finds_38 (by decide) (by exact ⟨by omega, by omega⟩) (by exact ⟨by omega, by omega⟩) (fun c_38 => ?_) (fun c_38 => ?_)
        · refine wa_return dX12_finds_151 rfl ?_
          exact ⟨rfl, J, rfl, hs⟩
        · omega
    · simp only [lpF]
      have nx : ∀ (J' : Nat → Nat → Int) (y' : Int) (a6' : Option tmV), FS I J' r ((T ++ gX (I 185) (plM I) wl r (letW wl) ho n x).take 200) → tmW kX12_finds 4 0 0 145 [some (tR 168), some (tI r), some (tI (letW wl : Nat)), some (tI n), some (tI x), some (tI y'), a6'] [] (S, J', L) (fun q h' => q = none ∧ ∃ I', h' = (S, I', L) ∧ FS I I' r ((T ++ (gX (I 185) (plM I) wl r (letW wl) ho n x ++ lpF (gX (I 185) (plM I) wl r (letW wl) ho n) j (x + 1))).take 200)) := fun J' y' a6' hJ' => by
        have nx := ih (x + 1) J' _ (some (tI y')) a6' (by omega) (by omega) hJ'
        rw [take_take_app, List.append_assoc] at nx
        refine wa_iinc dX12_finds_145 rfl (by decide) ?_
        refine wa_goto 23 dX12_finds_148 (by decide) ?_
        exact nx
      have y1 : tmW kX12_finds 4 0 0 44 [some (tR 168), some (tI r), some (tI (letW wl : Nat)), some (tI n), some (tI x), some (tI (-1)), a6] [] (S, J, L) (fun q h' => q = none ∧ ∃ I', h' = (S, I', L) ∧ FS I I' r ((T ++ (gX (I 185) (plM I) wl r (letW wl) ho n x ++ lpF (gX (I 185) (plM I) wl r (letW wl) ho n) j (x + 1))).take 200)) := by
        by_cases c : okB (letW wl) ho 0 x = true
        · refine finds_y hL hp (okB_P c ⟨hx1, by omega⟩) c _ (n + 1) (-1) J T a6 (by omega) (by omega) hs (fun J' y' a' hJ' => nx J' y' a' ?_)
          unfold gX
          rw [if_pos c]
          exact hJ'
        · have nx0 := nx J (-1) a6 (by
            unfold gX
            rw [if_neg c, List.append_nil, List.take_of_length_le s6]
            exact hs)
          have k0 := c_misStand (I := J) (L := L) hL q5 q2 q3 q4 (l := 0) (by decide) (l' := 0) rfl (z := x) ⟨hx1, by omega⟩
          rw [if_neg c] at k0
          refine wa_iload dX12_finds_44 rfl ?_
          refine wa_iload_n dX12_finds_46 rfl ?_
          refine wa_icmp_ge 145 dX12_finds_47 (by decide) (by exact ⟨by omega, by omega⟩) (by exact ⟨by omega, by omega⟩) (fun c_47 => ?_) (fun c_47 => ?_)
          · omega
          · refine wa_aload_n dX12_finds_50 rfl ?_
            refine wa_iload_n dX12_finds_51 rfl ?_
            refine wa_iconst dX12_finds_52 ?_
            refine wa_iload dX12_finds_53 rfl ?_
            refine wa_callVf (ci := 12) dX12_finds_55 KX12_isStand LX12_147 ⟨_, _, rfl, by decide⟩ o168 (k0) (by decide) rfl rfl (Nat.le_of_ble_eq_true rfl) rfl rfl ?_
            refine wa_if_eq 145 dX12_finds_58 (by decide) (by exact ⟨by omega, by omega⟩) (fun c_58 => ?_) (fun c_58 => ?_)
            · exact nx0
            · omega
      refine wa_iload dX12_finds_23 rfl ?_
      refine wa_iload_n dX12_finds_25 rfl ?_
      refine wa_icmp_ge 151 dX12_finds_26 (by decide) (by exact ⟨by omega, by omega⟩) (by exact ⟨by omega, by omega⟩) (fun c_26 => ?_) (fun c_26 => ?_)
      · omega
      · refine wa_aload_n dX12_finds_29 rfl ?_
        refine wt_getR dX12_finds_30 FX12_64 (by assumption) (by assumption) ?_
        refine wa_iload_n dX12_finds_33 rfl ?_
        refine wt_iald r dX12_finds_34 (by assumption) rfl (by omega) ?_
        try first | rw [s5] | skip
        refine wa_sipush dX12_finds_35 rfl ?_
        refine wa_icmp_ge 151 dX12_finds_38 (by decide) (by exact ⟨by omega, by omega⟩) (by exact ⟨by omega, by omega⟩) (fun c_38 => ?_) (fun c_38 => ?_)
        · omega
        · refine wa_iconst dX12_finds_41 ?_
          refine wa_istore dX12_finds_42 (by decide) ?_
          exact y1
-- finds, behind table
set_option maxRecDepth 20000 in
theorem c_mfinds (hL : LX S) {X : TS} (hX : XOK X) {r : Nat} {wl wr : List Int} (hM : MT I X) (hw : MW I r wl wr) (ht : TreeW wl) (hpl : ∀ K, K < 2604 → plM I K = plT X K) (hls : ∀ c, c < X.1 → X.2.2.2.2.2 c = (c : Int) → I 185 c = lsX X c) : tmC yX12_finds kX12_finds 4 0 0 [tR 168, tI r] (S, I, L) (fun q h' => q = none ∧ ∃ I', h' = (S, I', L) ∧ FS I I' r (fnd6 X wl r)) := by
  refine tmC.mk (lv := [some (tR 168), some (tI r), none, none, none, none, none]) 5 ⟨rfl, by decide +kernel, by decide⟩ rfl rfl ?_
  have o168 := oX168 hL
  have r168_0 := rX168_0 hL
  have r168_1 := rX168_1 hL
  have r168_3 := rX168_3 hL
  have r168_4 := rX168_4 hL
  have r168_5 := rX168_5 hL
  have r168_6 := rX168_6 hL
  have r168_7 := rX168_7 hL
  have r168_8 := rX168_8 hL
  have r168_11 := rX168_11 hL
  have r168_13 := rX168_13 hL
  have r168_17 := rX168_17 hL
  have r168_18 := rX168_18 hL
  have r168_19 := rX168_19 hL
  have r168_21 := rX168_21 hL
  have r168_22 := rX168_22 hL
  have r168_23 := rX168_23 hL
  have r168_24 := rX168_24 hL
  have r168_25 := rX168_25 hL
  have r168_26 := rX168_26 hL
  have r168_27 := rX168_27 hL
  have r168_28 := rX168_28 hL
  have r168_29 := rX168_29 hL
  have r168_30 := rX168_30 hL
  have o169 := oX169 hL
  have o187 := oX187 hL
  obtain ⟨ok1, ok2⟩ := ht.ok
  have h50 := hX.1.1
  have hho := hX.1.2.2.1
  have h9 : ∀ s ∈ wl, s ≤ 9 := fun s hs => (hw.2.2.2.2.2.2.1 s hs).2
  have hr6 := hw.1
  have hm0 := hM.1
  have hlet : letW wl < 8 := letF_lt wl 0 h9 (by decide)
  have hplP : ∀ K, K < 2604 → ¬ plT X K < 0 → ClP X.1 X.2.2.2.2.2 (plT X K) := fun K hK hn => by
    unfold plT at hn ⊢
    rcases tmScan_spec (P := fun j => (K : Int) = tKey X.1 X.2.1 X.2.2.1 X.2.2.2.1 X.2.2.2.2.2 j) X.1 0 with ⟨e1, _⟩ | ⟨j, e1, _, h2, _, _⟩
    · rw [if_pos e1] at hn; exact absurd (by decide) hn
    · rw [e1, if_neg (by omega)]
      have := hho j (by omega)
      rw [Int.toNat_natCast]
      exact ⟨this.1, by omega, this.2.2⟩
  have hlsb : ∀ c, c < 50 → 0 ≤ lsX X c ∧ lsX X c ≤ 9 := gnRun_b hX.1.2.2.2 X.1 0 _ (by omega) (fun _ _ => by decide) (fun t ht => by have := hho t ht; omega)
  have hlsP : ∀ c : Int, ClP X.1 X.2.2.2.2.2 c → 0 ≤ c ∧ c < 50 ∧ I 185 c.toNat = lsX X c.toNat := fun c hc => ⟨hc.1, by have := hc.2.1; omega, hls c.toNat (by have := hc.1; have := hc.2.1; omega) (by rw [hc.2.2]; have := hc.1; omega)⟩
  have hp : FdP I X.1 X.2.2.2.2.2 r wl wr := ⟨⟨hw, ok1, ok2, fun K hK hn => by rw [hpl K hK] at hn ⊢; exact hplP K hK hn, fun c hc => by
    obtain ⟨a, b, e⟩ := hlsP c hc
    have := hlsb c.toNat (by omega)
    exact ⟨a, b, by omega, by omega⟩⟩, h50, fun t ht => (hM.2 t ht).2.2.2.2, fun t ht => by have := hho t ht; exact ⟨by omega, by omega⟩, hlet, hm0⟩
  have kl := c_mletters (I := va_up I 187 (va_up (I 187) r 0)) (L := L) hL (hw.row (vup_n (by decide)))
  have fin := finds_x (I := I) (L := L) hL hp (X.1 + 1) (-1) (va_up I 187 (va_up (I 187) r 0)) [] none none (by omega) (by omega) ⟨fun a _ a2 _ _ => vup_n a2, fun x hx => by rw [vup_s, vup_n hx], fun x _ => by rw [vup_n (by decide)], by rw [vup_s, vup_s]; rfl, by simp, fun k e he => by simp at he⟩
  rw [List.nil_append, gX_all ok1 ok2 h9, ENW6_cg (fun _ _ => rfl) hpl, ENW6_ls (P := ClP X.1 X.2.2.2.2.2) ok1 ok2 h9 (fun c hc e => ⟨by omega, by omega, by rw [Int.toNat_natCast]; exact e⟩) hplP hlsP] at fin
  refine wa_aload_n dX12_finds_0 rfl ?_
  refine wt_getR dX12_finds_1 FX12_64 (by assumption) (by assumption) ?_
  refine wa_iload_n dX12_finds_4 rfl ?_
  refine wa_iconst dX12_finds_5 ?_
  refine wt_iast r dX12_finds_6 (by assumption) rfl (by omega) (by exact ⟨by omega, by omega⟩) ?_
  refine wa_aload_n dX12_finds_7 rfl ?_
  refine wa_iload_n dX12_finds_8 rfl ?_
  refine wa_callVf (ci := 12) dX12_finds_9 KX12_lettersOf LX12_144 ⟨_, _, rfl, by decide⟩ o168 (kl) (by decide) rfl rfl (Nat.le_of_ble_eq_true rfl) rfl rfl ?_
  refine wa_istore_n dX12_finds_12 (by decide) ?_
  refine wa_aload_n dX12_finds_13 rfl ?_
  refine wt_getR dX12_finds_14 FX12_7 (by assumption) (by assumption) ?_
  refine wa_iconst dX12_finds_17 ?_
  refine wt_iald 0 dX12_finds_18 (by assumption) rfl (by omega) ?_
  try first | rw [vup_n (show 169 ≠ 187 by decide), hm0] | skip
  refine wa_istore_n dX12_finds_19 (by decide) ?_
  refine wa_iconst dX12_finds_20 ?_
  refine wa_istore dX12_finds_21 (by decide) ?_
  exact fin
end S99h
