/-! ===== 99d: the reference: table ===== -/
/-- the table of the reference, by keys -/
def plM (I : Nat → Nat → Int) (K : Nat) : Int := if K < 4 then I 182 K else if K < 104 then I 183 (K - 4) else I 184 (K - 104)
/-- a TERM is laid -/
def plS (X : TS) (pl : Nat → Int) (t : Nat) : Nat → Int := va_up pl (tKey X.1 X.2.1 X.2.2.1 X.2.2.2.1 X.2.2.2.2.2 t).toNat (X.2.2.2.2.2 t)
/-- what is laid of the TERMS below t -/
def TbI (X : TS) (pl : Nat → Int) (t : Nat) : Prop := (∀ j, j < t → pl (tKey X.1 X.2.1 X.2.2.1 X.2.2.2.1 X.2.2.2.2.2 j).toNat = X.2.2.2.2.2 j) ∧ ∀ K, K < 2604 → pl K ≠ -1 → ∃ j, j < t ∧ (K : Int) = tKey X.1 X.2.1 X.2.2.1 X.2.2.2.1 X.2.2.2.2.2 j
set_option maxRecDepth 20000 in
theorem key_same {X : TS} (hX : XOK X) {i j : Nat} (hi : i < X.1) (hj : j < X.1) (e : tKey X.1 X.2.1 X.2.2.1 X.2.2.2.1 X.2.2.2.2.2 i = tKey X.1 X.2.1 X.2.2.1 X.2.2.2.1 X.2.2.2.2.2 j) : X.2.2.2.2.2 i = X.2.2.2.2.2 j := by
  obtain ⟨⟨h1, h2, h3, h4⟩, hc⟩ := hX
  have p1 := part_ok h2 h3 h1 hi
  have p2 := part_ok h2 h3 h1 hj
  obtain ⟨k1, k2, k3⟩ := tmKey_inj p1.1 p1.2.1 p1.2.2.1 p2.1 p2.2.1 p2.2.2.1 e
  refine hc i j hi hj ⟨k1, ?_, ?_⟩
  · by_cases z : 4 ≤ X.2.1 i
    · exact k2 z
    · rw [p1.2.2.2.1 (by omega), p2.2.2.2.1 (by omega)]
  · by_cases z : X.2.1 i = 6
    · exact k3 z
    · rw [p1.2.2.2.2.1 (by omega), p2.2.2.2.2.1 (by omega)]
set_option maxRecDepth 20000 in
theorem TbI.step {X : TS} (hX : XOK X) {pl : Nat → Int} {t : Nat} (ht : t < X.1) (h : TbI X pl t) : TbI X (plS X pl t) (t + 1) := by
  have hp := part_ok hX.1.2.1 hX.1.2.2.1 hX.1.1 ht
  refine ⟨fun j hj => ?_, fun K hK hne => ?_⟩
  · unfold plS
    have hpj := part_ok hX.1.2.1 hX.1.2.2.1 hX.1.1 (show j < X.1 by omega)
    by_cases e : (tKey X.1 X.2.1 X.2.2.1 X.2.2.2.1 X.2.2.2.2.2 j).toNat = (tKey X.1 X.2.1 X.2.2.1 X.2.2.2.1 X.2.2.2.2.2 t).toNat
    · rw [e, vup_s]
      have e' : tKey X.1 X.2.1 X.2.2.1 X.2.2.2.1 X.2.2.2.2.2 j = tKey X.1 X.2.1 X.2.2.1 X.2.2.2.1 X.2.2.2.2.2 t := by
        have a := hpj.2.2.2.2.2; have b := hp.2.2.2.2.2; omega
      exact (key_same hX (by omega) ht e').symm
    · rw [vup_n e]
      by_cases z : j = t
      · subst z; exact absurd rfl e
      · exact h.1 j (by omega)
  · unfold plS at hne
    by_cases e : K = (tKey X.1 X.2.1 X.2.2.1 X.2.2.2.1 X.2.2.2.2.2 t).toNat
    · exact ⟨t, by omega, by have := hp.2.2.2.2.2; omega⟩
    · rw [vup_n e] at hne
      obtain ⟨j, a, b⟩ := h.2 K hK hne
      exact ⟨j, by omega, b⟩
set_option maxRecDepth 20000 in
theorem TbI.tab {X : TS} {pl : Nat → Int} (h : TbI X pl X.1) : TabOK X.1 X.2.1 X.2.2.1 X.2.2.2.1 X.2.2.2.2.2 pl := ⟨h.1, fun K hK hne => by
  obtain ⟨j, a, b⟩ := h.2 K hK hne
  refine ⟨j, a, b, ?_⟩
  have := h.1 j a
  rw [← b] at this
  simpa using this⟩
-- least generations, from 99
set_option maxRecDepth 20000 in
theorem gn99 {ho ge : Nat → Int} {n : Nat} (hh : HO n ho) (hg : ∀ t, t < n → 0 ≤ ge t ∧ ge t ≤ 9) : ∀ (k t : Nat) (c d : Nat → Int), t + k = n → (∀ x, x < n → d x = c x ∨ (d x = 99 ∧ c x = 9)) → (∀ x, x < n → ho x = (x : Int) → x < t → d x = c x) → ∀ x, x < n → ho x = (x : Int) → gnRun ho ge k t d x = gnRun ho ge k t c x := by
  intro k
  induction k with
  | zero => intro t c d ht h1 h2 x hx hxx; exact h2 x hx hxx (by omega)
  | succ k ih =>
    intro t c d ht h1 h2 x hx hxx
    simp only [gnRun]
    have ht' := hh t (by omega)
    have hgt := hg t (by omega)
    refine ih (t + 1) _ _ (by omega) (fun y hy => ?_) (fun y hy hyy hyt => ?_) x hx hxx
    · by_cases e : y = (ho t).toNat
      · subst e
        rw [vup_s, vup_s]
        left
        rcases h1 _ hy with q | ⟨q1, q2⟩
        · rw [q]
        · rw [q1, q2, if_pos (by omega)]
          split <;> omega
      · rw [vup_n e, vup_n e]; exact h1 y hy
    · by_cases e : y = (ho t).toNat
      · subst e
        rw [vup_s, vup_s]
        rcases h1 _ hy with q | ⟨q1, q2⟩
        · rw [q]
        · rw [q1, q2, if_pos (by omega)]
          split <;> omega
      · rw [vup_n e, vup_n e]
        by_cases z : y = t
        · subst z; rw [hyy] at e; omega
        · exact h2 y hy hyy (by omega)
section S99d
variable {S : tmS} {I : Nat → Nat → Int} {L : Nat → Nat → Int64}
set_option maxRecDepth 20000 in
theorem mtab_f1 (hL : LX S) (Q : Option tmV → tmH → Prop) (kk : tmW kX12_table 2 0 0 20 [some (tR 168), some (tI (4 : Nat)), none, none] [] (S, va_up I 182 (tmFill (I 182) 4 (-1)), L) Q) : ∀ (j k : Nat), k + j = 4 → tmW kX12_table 2 0 0 2 [some (tR 168), some (tI k), none, none] [] (S, va_up I 182 (tmFill (I 182) k (-1)), L) Q := by
  intro j
  have o168 := oX168 hL
  have r168_0 := rX168_0 hL
  have r168_1 := rX168_1 hL
  have r168_3 := rX168_3 hL
  have r168_4 := rX168_4 hL
  have r168_5 := rX168_5 hL
  have r168_6 := rX168_6 hL
  have r168_7 := rX168_7 hL
  have r168_8 := rX168_8 hL
  have r168_11 := rX168_11 hL
  have r168_13 := rX168_13 hL
  have r168_17 := rX168_17 hL
  have r168_18 := rX168_18 hL
  have r168_19 := rX168_19 hL
  have r168_21 := rX168_21 hL
  have r168_22 := rX168_22 hL
  have r168_23 := rX168_23 hL
  have r168_24 := rX168_24 hL
  have r168_25 := rX168_25 hL
  have r168_26 := rX168_26 hL
  have r168_27 := rX168_27 hL
  have r168_28 := rX168_28 hL
  have r168_29 := rX168_29 hL
  have r168_30 := rX168_30 hL
  have o182 := oX182 hL
  induction j with
  | zero =>
    intro k hk
    obtain rfl : k = 4 := by omega
    refine wa_iload_n dX12_table_2 rfl ?_
    refine wa_iconst dX12_table_3 ?_
    refine wa_icmp_ge 20 dX12_table_4 (by decide) (by exact ⟨by omega, by omega⟩) (by exact ⟨by omega, by omega⟩) (fun c_4 => ?_) (fun c_4 => ?_)
    · exact kk
    · omega
  | succ j ih =>
    intro k hk
    have nx := ih (k + 1) (by omega)
    rw [← tmFill_s] at nx
    refine wa_iload_n dX12_table_2 rfl ?_
    refine wa_iconst dX12_table_3 ?_
    refine wa_icmp_ge 20 dX12_table_4 (by decide) (by exact ⟨by omega, by omega⟩) (by exact ⟨by omega, by omega⟩) (fun c_4 => ?_) (fun c_4 => ?_)
    · omega
    · refine wa_aload_n dX12_table_7 rfl ?_
      refine wt_getR dX12_table_8 FX12_49 (by assumption) (by assumption) ?_
      refine wa_iload_n dX12_table_11 rfl ?_
      refine wa_iconst dX12_table_12 ?_
      refine wt_iast k dX12_table_13 (by assumption) rfl (by omega) (by exact ⟨by omega, by omega⟩) ?_
      rw [vup_s, vup_vup]
      refine wa_iinc dX12_table_14 rfl (by decide) ?_
      refine wa_goto 2 dX12_table_17 (by decide) ?_
      exact nx
set_option maxRecDepth 20000 in
theorem mtab_f2 (hL : LX S) (Q : Option tmV → tmH → Prop) (kk : tmW kX12_table 2 0 0 41 [some (tR 168), some (tI (100 : Nat)), none, none] [] (S, va_up I 183 (tmFill (I 183) 100 (-1)), L) Q) : ∀ (j k : Nat), k + j = 100 → tmW kX12_table 2 0 0 22 [some (tR 168), some (tI k), none, none] [] (S, va_up I 183 (tmFill (I 183) k (-1)), L) Q := by
  intro j
  have o168 := oX168 hL
  have r168_0 := rX168_0 hL
  have r168_1 := rX168_1 hL
  have r168_3 := rX168_3 hL
  have r168_4 := rX168_4 hL
  have r168_5 := rX168_5 hL
  have r168_6 := rX168_6 hL
  have r168_7 := rX168_7 hL
  have r168_8 := rX168_8 hL
  have r168_11 := rX168_11 hL
  have r168_13 := rX168_13 hL
  have r168_17 := rX168_17 hL
  have r168_18 := rX168_18 hL
  have r168_19 := rX168_19 hL
  have r168_21 := rX168_21 hL
  have r168_22 := rX168_22 hL
  have r168_23 := rX168_23 hL
  have r168_24 := rX168_24 hL
  have r168_25 := rX168_25 hL
  have r168_26 := rX168_26 hL
  have r168_27 := rX168_27 hL
  have r168_28 := rX168_28 hL
  have r168_29 := rX168_29 hL
  have r168_30 := rX168_30 hL
  have o183 := oX183 hL
  induction j with
  | zero =>
    intro k hk
    obtain rfl : k = 100 := by omega
    refine wa_iload_n dX12_table_22 rfl ?_
    refine wa_bipush dX12_table_23 rfl ?_
    refine wa_icmp_ge 41 dX12_table_25 (by decide) (by exact ⟨by omega, by omega⟩) (by exact ⟨by omega, by omega⟩) (fun c_25 => ?_) (fun c_25 => ?_)
    · exact kk
    · omega
  | succ j ih =>
    intro k hk
    have nx := ih (k + 1) (by omega)
    rw [← tmFill_s] at nx
    refine wa_iload_n dX12_table_22 rfl ?_
    refine wa_bipush dX12_table_23 rfl ?_
    refine wa_icmp_ge 41 dX12_table_25 (by decide) (by exact ⟨by omega, by omega⟩) (by exact ⟨by omega, by omega⟩) (fun c_25 => ?_) (fun c_25 => ?_)
    · omega
    · refine wa_aload_n dX12_table_28 rfl ?_
      refine wt_getR dX12_table_29 FX12_52 (by assumption) (by assumption) ?_
      refine wa_iload_n dX12_table_32 rfl ?_
      refine wa_iconst dX12_table_33 ?_
      refine wt_iast k dX12_table_34 (by assumption) rfl (by omega) (by exact ⟨by omega, by omega⟩) ?_
      rw [vup_s, vup_vup]
      refine wa_iinc dX12_table_35 rfl (by decide) ?_
      refine wa_goto 22 dX12_table_38 (by decide) ?_
      exact nx
set_option maxRecDepth 20000 in
theorem mtab_f3 (hL : LX S) (Q : Option tmV → tmH → Prop) (kk : tmW kX12_table 2 0 0 63 [some (tR 168), some (tI (2500 : Nat)), none, none] [] (S, va_up I 184 (tmFill (I 184) 2500 (-1)), L) Q) : ∀ (j k : Nat), k + j = 2500 → tmW kX12_table 2 0 0 43 [some (tR 168), some (tI k), none, none] [] (S, va_up I 184 (tmFill (I 184) k (-1)), L) Q := by
  intro j
  have o168 := oX168 hL
  have r168_0 := rX168_0 hL
  have r168_1 := rX168_1 hL
  have r168_3 := rX168_3 hL
  have r168_4 := rX168_4 hL
  have r168_5 := rX168_5 hL
  have r168_6 := rX168_6 hL
  have r168_7 := rX168_7 hL
  have r168_8 := rX168_8 hL
  have r168_11 := rX168_11 hL
  have r168_13 := rX168_13 hL
  have r168_17 := rX168_17 hL
  have r168_18 := rX168_18 hL
  have r168_19 := rX168_19 hL
  have r168_21 := rX168_21 hL
  have r168_22 := rX168_22 hL
  have r168_23 := rX168_23 hL
  have r168_24 := rX168_24 hL
  have r168_25 := rX168_25 hL
  have r168_26 := rX168_26 hL
  have r168_27 := rX168_27 hL
  have r168_28 := rX168_28 hL
  have r168_29 := rX168_29 hL
  have r168_30 := rX168_30 hL
  have o184 := oX184 hL
  induction j with
  | zero =>
    intro k hk
    obtain rfl : k = 2500 := by omega
    refine wa_iload_n dX12_table_43 rfl ?_
    refine wa_sipush dX12_table_44 rfl ?_
    refine wa_icmp_ge 63 dX12_table_47 (by decide) (by exact ⟨by omega, by omega⟩) (by exact ⟨by omega, by omega⟩) (fun c_47 => ?_) (fun c_47 => ?_)
    · exact kk
    · omega
  | succ j ih =>
    intro k hk
    have nx := ih (k + 1) (by omega)
    rw [← tmFill_s] at nx
    refine wa_iload_n dX12_table_43 rfl ?_
    refine wa_sipush dX12_table_44 rfl ?_
    refine wa_icmp_ge 63 dX12_table_47 (by decide) (by exact ⟨by omega, by omega⟩) (by exact ⟨by omega, by omega⟩) (fun c_47 => ?_) (fun c_47 => ?_)
    · omega
    · refine wa_aload_n dX12_table_50 rfl ?_
      refine wt_getR dX12_table_51 FX12_55 (by assumption) (by assumption) ?_
      refine wa_iload_n dX12_table_54 rfl ?_
      refine wa_iconst dX12_table_55 ?_
      refine wt_iast k dX12_table_56 (by assumption) rfl (by omega) (by exact ⟨by omega, by omega⟩) ?_
      rw [vup_s, vup_vup]
      refine wa_iinc dX12_table_57 rfl (by decide) ?_
      refine wa_goto 43 dX12_table_60 (by decide) ?_
      exact nx
set_option maxRecDepth 20000 in
theorem mtab_f4 (hL : LX S) {n : Nat} (hn : I 169 0 = (n : Int)) (hn5 : n ≤ 50) (Q : Option tmV → tmH → Prop) (kk : tmW kX12_table 2 0 0 89 [some (tR 168), some (tI n), none, none] [] (S, va_up I 185 (tmFill (I 185) n 99), L) Q) : ∀ (j k : Nat), k + j = n → tmW kX12_table 2 0 0 65 [some (tR 168), some (tI k), none, none] [] (S, va_up I 185 (tmFill (I 185) k 99), L) Q := by
  intro j
  have o168 := oX168 hL
  have r168_0 := rX168_0 hL
  have r168_1 := rX168_1 hL
  have r168_3 := rX168_3 hL
  have r168_4 := rX168_4 hL
  have r168_5 := rX168_5 hL
  have r168_6 := rX168_6 hL
  have r168_7 := rX168_7 hL
  have r168_8 := rX168_8 hL
  have r168_11 := rX168_11 hL
  have r168_13 := rX168_13 hL
  have r168_17 := rX168_17 hL
  have r168_18 := rX168_18 hL
  have r168_19 := rX168_19 hL
  have r168_21 := rX168_21 hL
  have r168_22 := rX168_22 hL
  have r168_23 := rX168_23 hL
  have r168_24 := rX168_24 hL
  have r168_25 := rX168_25 hL
  have r168_26 := rX168_26 hL
  have r168_27 := rX168_27 hL
  have r168_28 := rX168_28 hL
  have r168_29 := rX168_29 hL
  have r168_30 := rX168_30 hL
  have o169 := oX169 hL
  have o185 := oX185 hL
  have e169 : ∀ f : Nat → Int, va_up I 185 f 169 = I 169 := fun f => vup_n (by decide)
  induction j with
  | zero =>
    intro k hk
    obtain rfl : k = n := by omega
    refine wa_iload_n dX12_table_65 rfl ?_
    refine wa_aload_n dX12_table_66 rfl ?_
    refine wt_getR dX12_table_67 FX12_7 (by assumption) (by assumption) ?_
    refine wa_iconst dX12_table_70 ?_
    refine wt_iald 0 dX12_table_71 (by assumption) rfl (by omega) ?_
    try first | rw [e169, hn] | skip
    refine wa_icmp_ge 89 dX12_table_72 (by decide) (by exact ⟨by omega, by omega⟩) (by exact ⟨by omega, by omega⟩) (fun c_72 => ?_) (fun c_72 => ?_)
    · exact kk
    · omega
  | succ j ih =>
    intro k hk
    have nx := ih (k + 1) (by omega)
    rw [← tmFill_s] at nx
    refine wa_iload_n dX12_table_65 rfl ?_
    refine wa_aload_n dX12_table_66 rfl ?_
    refine wt_getR dX12_table_67 FX12_7 (by assumption) (by assumption) ?_
    refine wa_iconst dX12_table_70 ?_
    refine wt_iald 0 dX12_table_71 (by assumption) rfl (by omega) ?_
    try first | rw [e169, hn] | skip
    refine wa_icmp_ge 89 dX12_table_72 (by decide) (by exact ⟨by omega, by omega⟩) (by exact ⟨by omega, by omega⟩) (fun c_72 => ?_) (fun c_72 => ?_)
    · omega
    · refine wa_aload_n dX12_table_75 rfl ?_
      refine wt_getR dX12_table_76 FX12_58 (by assumption) (by assumption) ?_
      refine wa_iload_n dX12_table_79 rfl ?_
      refine wa_bipush dX12_table_80 rfl ?_
      refine wt_iast k dX12_table_82 (by assumption) rfl (by omega) (by exact ⟨by omega, by omega⟩) ?_
      rw [vup_s, vup_vup]
      refine wa_iinc dX12_table_83 rfl (by decide) ?_
      refine wa_goto 65 dX12_table_86 (by decide) ?_
      exact nx
/-- what table leaves -/
abbrev MtPost (S : tmS) (I : Nat → Nat → Int) (L : Nat → Nat → Int64) (X : TS) : Option tmV → tmH → Prop := fun r h' => r = none ∧ ∃ I', h' = (S, I', L) ∧ (∀ a, a ≠ 182 → a ≠ 183 → a ≠ 184 → a ≠ 185 → I' a = I a) ∧ (∀ K, K < 2604 → plM I' K = plT X K) ∧ ∀ c, c < X.1 → X.2.2.2.2.2 c = (c : Int) → I' 185 c = lsX X c
set_option maxRecDepth 20000 in
theorem plM_1 {I : Nat → Nat → Int} {j : Nat} {c : Int} (hj : j < 4) : plM (va_up I 182 (va_up (I 182) j c)) = va_up (plM I) j c := by
  funext K
  unfold plM
  rw [vup_n (show 183 ≠ 182 by decide), vup_n (show 184 ≠ 182 by decide), vup_s]
  by_cases e : K = j
  · subst e; rw [if_pos hj, vup_s, vup_s]
  · rw [vup_n e, vup_n e]
set_option maxRecDepth 20000 in
theorem plM_2 {I : Nat → Nat → Int} {j : Nat} {c : Int} (hj : j < 100) : plM (va_up I 183 (va_up (I 183) j c)) = va_up (plM I) (4 + j) c := by
  funext K
  unfold plM
  rw [vup_n (show 182 ≠ 183 by decide), vup_n (show 184 ≠ 183 by decide), vup_s]
  by_cases e : K = 4 + j
  · subst e; rw [if_neg (by omega), if_pos (by omega), vup_s, show 4 + j - 4 = j by omega, vup_s]
  · rw [vup_n e]
    by_cases k4 : K < 4
    · rw [if_pos k4, if_pos k4]
    · rw [if_neg k4, if_neg k4, vup_n (show K - 4 ≠ j by omega)]
set_option maxRecDepth 20000 in
theorem plM_3 {I : Nat → Nat → Int} {j : Nat} {c : Int} : plM (va_up I 184 (va_up (I 184) j c)) = va_up (plM I) (104 + j) c := by
  funext K
  unfold plM
  rw [vup_n (show 182 ≠ 184 by decide), vup_n (show 183 ≠ 184 by decide), vup_s]
  by_cases e : K = 104 + j
  · subst e; rw [if_neg (by omega), if_neg (by omega), vup_s, show 104 + j - 104 = j by omega, vup_s]
  · rw [vup_n e]
    by_cases k4 : K < 4
    · rw [if_pos k4, if_pos k4]
    · rw [if_neg k4, if_neg k4]
      by_cases k5 : K < 104
      · rw [if_pos k5, if_pos k5]
      · rw [if_neg k5, if_neg k5, vup_n (show K - 104 ≠ j by omega)]
set_option maxRecDepth 20000 in
theorem plM_cg {I J : Nat → Nat → Int} (h1 : J 182 = I 182) (h2 : J 183 = I 183) (h3 : J 184 = I 184) : plM J = plM I := by funext K; unfold plM; rw [h1, h2, h3]
-- the least generation of a TERM's CLASS
set_option maxRecDepth 20000 in
theorem mtab_least (hL : LX S) {X : TS} (hX : XOK X) (hM : MT I X) (hg : ∀ x, inR (I 185 x)) {t : Nat} (ht : t < X.1) (s : Int) (Q : Option tmV → tmH → Prop)
    (kk : tmW kX12_table 2 0 0 91 [some (tR 168), some (tI ((t + 1 : Nat) : Int)), some (tI s), some (tI (X.2.2.2.2.2 t))] [] (S, va_up I 185 (va_up (I 185) (X.2.2.2.2.2 t).toNat (if X.2.2.2.2.1 t < I 185 (X.2.2.2.2.2 t).toNat then X.2.2.2.2.1 t else I 185 (X.2.2.2.2.2 t).toNat)), L) Q) :
    tmW kX12_table 2 0 0 202 [some (tR 168), some (tI t), some (tI s), some (tI (X.2.2.2.2.2 t))] [] (S, I, L) Q := by
  have o168 := oX168 hL
  have r168_0 := rX168_0 hL
  have r168_1 := rX168_1 hL
  have r168_3 := rX168_3 hL
  have r168_4 := rX168_4 hL
  have r168_5 := rX168_5 hL
  have r168_6 := rX168_6 hL
  have r168_7 := rX168_7 hL
  have r168_8 := rX168_8 hL
  have r168_11 := rX168_11 hL
  have r168_13 := rX168_13 hL
  have r168_17 := rX168_17 hL
  have r168_18 := rX168_18 hL
  have r168_19 := rX168_19 hL
  have r168_21 := rX168_21 hL
  have r168_22 := rX168_22 hL
  have r168_23 := rX168_23 hL
  have r168_24 := rX168_24 hL
  have r168_25 := rX168_25 hL
  have r168_26 := rX168_26 hL
  have r168_27 := rX168_27 hL
  have r168_28 := rX168_28 hL
  have r168_29 := rX168_29 hL
  have r168_30 := rX168_30 hL
  have o169 := oX169 hL
  have o185 := oX185 hL
  have h50 := hX.1.1
  have hh := hX.1.2.2.1 t ht
  have hge := hX.1.2.2.2 t ht
  obtain ⟨q1, q2, q3, q4, q5⟩ := hM.2 t ht
  have hr := hg (X.2.2.2.2.2 t).toNat
  by_cases c : X.2.2.2.2.1 t < I 185 (X.2.2.2.2.2 t).toNat
  · rw [if_pos c] at kk
    refine wa_aload_n dX12_table_202 rfl ?_
    refine wt_getR dX12_table_203 FX12_58 (by assumption) (by assumption) ?_
    refine wa_iload_n dX12_table_206 rfl ?_
    refine wa_aload_n dX12_table_207 rfl ?_
    refine wt_getR dX12_table_208 FX12_7 (by assumption) (by assumption) ?_
    refine wa_sipush dX12_table_211 rfl ?_
    refine wa_iload_n dX12_table_214 rfl ?_
    refine wa_iadd dX12_table_215 ?_
    refine wt_iald (152 + t) dX12_table_216 (by assumption) (by omega) (by omega) ?_
    try first | rw [q4] | skip
    refine wa_aload_n dX12_table_217 rfl ?_
    refine wt_getR dX12_table_218 FX12_58 (by assumption) (by assumption) ?_
    refine wa_iload_n dX12_table_221 rfl ?_
    refine wt_iald (X.2.2.2.2.2 t).toNat dX12_table_222 (by assumption) (by omega) (by omega) ?_
    try first | rw [q4] | skip
    refine wa_icmp_ge 239 dX12_table_223 (by decide) (by first | exact hr | exact ⟨by omega, by omega⟩) (by first | exact hr | exact ⟨by omega, by omega⟩) (fun c_223 => ?_) (fun c_223 => ?_)
    · omega
    · refine wa_aload_n dX12_table_226 rfl ?_
      refine wt_getR dX12_table_227 FX12_7 (by assumption) (by assumption) ?_
      refine wa_sipush dX12_table_230 rfl ?_
      refine wa_iload_n dX12_table_233 rfl ?_
      refine wa_iadd dX12_table_234 ?_
      refine wt_iald (152 + t) dX12_table_235 (by assumption) (by omega) (by omega) ?_
      try first | rw [q4] | skip
      refine wa_goto 245 dX12_table_236 (by decide) ?_
      refine wt_iast (X.2.2.2.2.2 t).toNat dX12_table_245 (by assumption) (by omega) (by omega) (by first | exact hr | exact ⟨by omega, by omega⟩) ?_
      refine wa_iinc dX12_table_246 rfl (by decide) ?_
      refine wa_goto 91 dX12_table_249 (by decide) ?_
      exact kk
  · rw [if_neg c] at kk
    refine wa_aload_n dX12_table_202 rfl ?_
    refine wt_getR dX12_table_203 FX12_58 (by assumption) (by assumption) ?_
    refine wa_iload_n dX12_table_206 rfl ?_
    refine wa_aload_n dX12_table_207 rfl ?_
    refine wt_getR dX12_table_208 FX12_7 (by assumption) (by assumption) ?_
    refine wa_sipush dX12_table_211 rfl ?_
    refine wa_iload_n dX12_table_214 rfl ?_
    refine wa_iadd dX12_table_215 ?_
    refine wt_iald (152 + t) dX12_table_216 (by assumption) (by omega) (by omega) ?_
    try first | rw [q4] | skip
    refine wa_aload_n dX12_table_217 rfl ?_
    refine wt_getR dX12_table_218 FX12_58 (by assumption) (by assumption) ?_
    refine wa_iload_n dX12_table_221 rfl ?_
    refine wt_iald (X.2.2.2.2.2 t).toNat dX12_table_222 (by assumption) (by omega) (by omega) ?_
    try first | rw [q4] | skip
    refine wa_icmp_ge 239 dX12_table_223 (by decide) (by first | exact hr | exact ⟨by omega, by omega⟩) (by first | exact hr | exact ⟨by omega, by omega⟩) (fun c_223 => ?_) (fun c_223 => ?_)
    · refine wa_aload_n dX12_table_239 rfl ?_
      refine wt_getR dX12_table_240 FX12_58 (by assumption) (by assumption) ?_
      refine wa_iload_n dX12_table_243 rfl ?_
      refine wt_iald (X.2.2.2.2.2 t).toNat dX12_table_244 (by assumption) (by omega) (by omega) ?_
      try first | rw [q4] | skip
      refine wt_iast (X.2.2.2.2.2 t).toNat dX12_table_245 (by assumption) (by omega) (by omega) (by first | exact hr | exact ⟨by omega, by omega⟩) ?_
      refine wa_iinc dX12_table_246 rfl (by decide) ?_
      refine wa_goto 91 dX12_table_249 (by decide) ?_
      exact kk
    · omega
set_option maxRecDepth 20000 in
theorem mtab_loop (hL : LX S) {X : TS} (hX : XOK X) (hM : MT I X) : ∀ (j t : Nat) (J : Nat → Nat → Int) (x y : Option tmV), t + j = X.1 → (∀ a, a ≠ 182 → a ≠ 183 → a ≠ 184 → a ≠ 185 → J a = I a) → TbI X (plM J) t → tmIR J →
    tmW kX12_table 2 0 0 91 [some (tR 168), some (tI t), x, y] [] (S, J, L) (fun r h' => r = none ∧ ∃ I', h' = (S, I', L) ∧ (∀ a, a ≠ 182 → a ≠ 183 → a ≠ 184 → a ≠ 185 → I' a = I a) ∧ TbI X (plM I') X.1 ∧ I' 185 = gnRun X.2.2.2.2.2 X.2.2.2.2.1 j t (J 185)) := by
  intro j
  have o168 := oX168 hL
  have r168_0 := rX168_0 hL
  have r168_1 := rX168_1 hL
  have r168_3 := rX168_3 hL
  have r168_4 := rX168_4 hL
  have r168_5 := rX168_5 hL
  have r168_6 := rX168_6 hL
  have r168_7 := rX168_7 hL
  have r168_8 := rX168_8 hL
  have r168_11 := rX168_11 hL
  have r168_13 := rX168_13 hL
  have r168_17 := rX168_17 hL
  have r168_18 := rX168_18 hL
  have r168_19 := rX168_19 hL
  have r168_21 := rX168_21 hL
  have r168_22 := rX168_22 hL
  have r168_23 := rX168_23 hL
  have r168_24 := rX168_24 hL
  have r168_25 := rX168_25 hL
  have r168_26 := rX168_26 hL
  have r168_27 := rX168_27 hL
  have r168_28 := rX168_28 hL
  have r168_29 := rX168_29 hL
  have r168_30 := rX168_30 hL
  have o169 := oX169 hL
  have o182 := oX182 hL
  have o183 := oX183 hL
  have o184 := oX184 hL
  have o185 := oX185 hL
  have h50 := hX.1.1
  induction j with
  | zero =>
    intro t J x y ht hf hT hJ
    obtain rfl : t = X.1 := by omega
    have hn : J 169 0 = (X.1 : Int) := by rw [hf 169 (by decide) (by decide) (by decide) (by decide)]; exact hM.1
    refine wa_iload_n dX12_table_91 rfl ?_
    refine wa_aload_n dX12_table_92 rfl ?_
    refine wt_getR dX12_table_93 FX12_7 (by assumption) (by assumption) ?_
    refine wa_iconst dX12_table_96 ?_
    refine wt_iald 0 dX12_table_97 (by assumption) rfl (by omega) ?_
    try first | rw [hn] | skip
    refine wa_icmp_ge 252 dX12_table_98 (by decide) (by exact ⟨by omega, by omega⟩) (by exact ⟨by omega, by omega⟩) (fun c_98 => ?_) (fun c_98 => ?_)
    · refine wa_return dX12_table_252 rfl ?_
      exact ⟨rfl, J, rfl, hf, hT, rfl⟩
    · omega
  | succ j ih =>
    intro t J x y ht hf hT hJ
    have e169 : J 169 = I 169 := hf 169 (by decide) (by decide) (by decide) (by decide)
    have hMJ : MT J X := hM.row e169
    have hn := hMJ.1
    have htX : t < X.1 := by omega
    obtain ⟨q1, q2, q3, q4, q5⟩ := hMJ.2 t htX
    have hw := hX.1.2.1 t htX
    have hh := hX.1.2.2.1 t htX
    have hge := hX.1.2.2.2 t htX
    have hp := part_ok hX.1.2.1 hX.1.2.2.1 h50 htX
    have k1 := c_mclassOf (I := J) (L := L) hL t (by omega)
    rw [q5] at k1
    have hstep := hT.step hX htX
    -- behind the store: the least generation, and on
    have rest : ∀ (V : Nat → Nat → Int), (∀ a, a ≠ 182 → a ≠ 183 → a ≠ 184 → V a = J a) → plM V = plS X (plM J) t → tmIR V → tmW kX12_table 2 0 0 202 [some (tR 168), some (tI t), some (tI (X.2.1 t)), some (tI (X.2.2.2.2.2 t))] [] (S, V, L) (fun r h' => r = none ∧ ∃ I', h' = (S, I', L) ∧ (∀ a, a ≠ 182 → a ≠ 183 → a ≠ 184 → a ≠ 185 → I' a = I a) ∧ TbI X (plM I') X.1 ∧ I' 185 = gnRun X.2.2.2.2.2 X.2.2.2.2.1 (j + 1) t (J 185)) := by
      intro V v1 v2 v3
      have e185 : V 185 = J 185 := v1 185 (by decide) (by decide) (by decide)
      refine mtab_least hL hX (hMJ.row (v1 169 (by decide) (by decide) (by decide))) (fun x => v3 185 x) htX (X.2.1 t) _ ?_
      generalize hU : va_up V 185 (va_up (V 185) (X.2.2.2.2.2 t).toNat (if X.2.2.2.2.1 t < V 185 (X.2.2.2.2.2 t).toNat then X.2.2.2.2.1 t else V 185 (X.2.2.2.2.2 t).toNat)) = U
      have gU : ∀ a, a ≠ 185 → U a = V a := fun a ha => by rw [← hU]; exact vup_n ha
      have irU : tmIR U := by rw [← hU]; exact v3.up (by split; exact ⟨by omega, by omega⟩; exact v3 185 _)
      have hi := ih (t + 1) U (some (tI (X.2.1 t))) (some (tI (X.2.2.2.2.2 t))) (by omega) (fun a a1 a2 a3 a4 => by rw [gU a a4, v1 a a1 a2 a3]; exact hf a a1 a2 a3 a4) (by rw [plM_cg (gU 182 (by decide)) (gU 183 (by decide)) (gU 184 (by decide)), v2]; exact hstep) irU
      have eg : gnRun X.2.2.2.2.2 X.2.2.2.2.1 (j + 1) t (J 185) = gnRun X.2.2.2.2.2 X.2.2.2.2.1 j (t + 1) (U 185) := by
        simp only [gnRun]
        rw [← hU, vup_s, e185]
      rw [eg]
      exact hi
    by_cases c4 : X.2.1 t < 4
    · have r1 := rest (va_up J 182 (va_up (J 182) (X.2.1 t).toNat (X.2.2.2.2.2 t))) (fun a a1 _ _ => vup_n a1) (by
        rw [plM_1 (by omega)]
        unfold plS tKey
        congr 1
        unfold tmKey
        rw [if_neg (by omega), if_pos c4]) (hJ.up ⟨by omega, by omega⟩)
      refine wa_iload_n dX12_table_91 rfl ?_
      refine wa_aload_n dX12_table_92 rfl ?_
      refine wt_getR dX12_table_93 FX12_7 (by assumption) (by assumption) ?_
      refine wa_iconst dX12_table_96 ?_
      refine wt_iald 0 dX12_table_97 (by assumption) rfl (by omega) ?_
      try first | rw [hn] | rw [q1] | skip
      refine wa_icmp_ge 252 dX12_table_98 (by decide) (by exact ⟨by omega, by omega⟩) (by exact ⟨by omega, by omega⟩) (fun c_98 => ?_) (fun c_98 => ?_)
      · omega
      · refine wa_aload_n dX12_table_101 rfl ?_
        refine wt_getR dX12_table_102 FX12_7 (by assumption) (by assumption) ?_
        refine wa_iconst dX12_table_105 ?_
        refine wa_iload_n dX12_table_106 rfl ?_
        refine wa_iadd dX12_table_107 ?_
        refine wt_iald (2 + t) dX12_table_108 (by assumption) (by omega) (by omega) ?_
        try first | rw [hn] | rw [q1] | skip
        refine wa_istore_n dX12_table_109 (by decide) ?_
        refine wa_aload_n dX12_table_110 rfl ?_
        refine wa_iload_n dX12_table_111 rfl ?_
        refine wa_callVf (ci := 12) dX12_table_112 KX12_classOf LX12_95 ⟨_, _, rfl, by decide⟩ o168 (k1) (by decide) rfl rfl (Nat.le_of_ble_eq_true rfl) rfl rfl ?_
        refine wa_istore_n dX12_table_115 (by decide) ?_
        refine wa_iload_n dX12_table_116 rfl ?_
        refine wa_iconst dX12_table_117 ?_
        refine wa_icmp_ge 131 dX12_table_118 (by decide) (by exact ⟨by omega, by omega⟩) (by exact ⟨by omega, by omega⟩) (fun c_118 => ?_) (fun c_118 => ?_)
        · omega
        · refine wa_aload_n dX12_table_121 rfl ?_
          refine wt_getR dX12_table_122 FX12_49 (by assumption) (by assumption) ?_
          refine wa_iload_n dX12_table_125 rfl ?_
          refine wa_iload_n dX12_table_126 rfl ?_
          refine wt_iast (X.2.1 t).toNat dX12_table_127 (by assumption) (by omega) (by omega) (by exact ⟨by omega, by omega⟩) ?_
          refine wa_goto 202 dX12_table_128 (by decide) ?_
          exact r1
    · have hon : 0 ≤ X.2.2.1 t ∧ X.2.2.1 t < X.1 := by have := hw.2.2.2.2.2.2.2.1 (by omega); omega
      have ho1 := hX.1.2.2.1 (X.2.2.1 t).toNat (by omega)
      have k2 := c_mclassOf (I := J) (L := L) hL (X.2.2.1 t).toNat (by omega)
      rw [(hMJ.2 _ (by omega)).2.2.2.2, show (((X.2.2.1 t).toNat : Nat) : Int) = X.2.2.1 t by omega] at k2
      have eh1 : tmHome X.1 X.2.2.2.2.2 (X.2.2.1 t) = X.2.2.2.2.2 (X.2.2.1 t).toNat := tmHome_in hon
      by_cases c6 : X.2.1 t < 6
      · have r1 := rest (va_up J 183 (va_up (J 183) (50 * (X.2.1 t - 4) + X.2.2.2.2.2 (X.2.2.1 t).toNat).toNat (X.2.2.2.2.2 t))) (fun a _ a2 _ => vup_n a2) (by
          rw [plM_2 (by omega)]
          unfold plS tKey
          rw [eh1]
          congr 1
          unfold tmKey
          rw [if_neg (by omega), if_neg (by omega), if_neg (by omega), if_pos c6]
          omega) (hJ.up ⟨by omega, by omega⟩)
        refine wa_iload_n dX12_table_91 rfl ?_
        refine wa_aload_n dX12_table_92 rfl ?_
        refine wt_getR dX12_table_93 FX12_7 (by assumption) (by assumption) ?_
        refine wa_iconst dX12_table_96 ?_
        refine wt_iald 0 dX12_table_97 (by assumption) rfl (by omega) ?_
        try first | rw [hn] | rw [q1] | rw [q2] | skip
        refine wa_icmp_ge 252 dX12_table_98 (by decide) (by exact ⟨by omega, by omega⟩) (by exact ⟨by omega, by omega⟩) (fun c_98 => ?_) (fun c_98 => ?_)
        · omega
        · refine wa_aload_n dX12_table_101 rfl ?_
          refine wt_getR dX12_table_102 FX12_7 (by assumption) (by assumption) ?_
          refine wa_iconst dX12_table_105 ?_
          refine wa_iload_n dX12_table_106 rfl ?_
          refine wa_iadd dX12_table_107 ?_
          refine wt_iald (2 + t) dX12_table_108 (by assumption) (by omega) (by omega) ?_
          try first | rw [hn] | rw [q1] | rw [q2] | skip
          refine wa_istore_n dX12_table_109 (by decide) ?_
          refine wa_aload_n dX12_table_110 rfl ?_
          refine wa_iload_n dX12_table_111 rfl ?_
          refine wa_callVf (ci := 12) dX12_table_112 KX12_classOf LX12_95 ⟨_, _, rfl, by decide⟩ o168 (k1) (by decide) rfl rfl (Nat.le_of_ble_eq_true rfl) rfl rfl ?_
          refine wa_istore_n dX12_table_115 (by decide) ?_
          refine wa_iload_n dX12_table_116 rfl ?_
          refine wa_iconst dX12_table_117 ?_
          refine wa_icmp_ge 131 dX12_table_118 (by decide) (by exact ⟨by omega, by omega⟩) (by exact ⟨by omega, by omega⟩) (fun c_118 => ?_) (fun c_118 => ?_)
          · refine wa_iload_n dX12_table_131 rfl ?_
            refine wa_bipush dX12_table_132 rfl ?_
            refine wa_icmp_ge 166 dX12_table_134 (by decide) (by exact ⟨by omega, by omega⟩) (by exact ⟨by omega, by omega⟩) (fun c_134 => ?_) (fun c_134 => ?_)
            · omega
            · refine wa_aload_n dX12_table_137 rfl ?_
              refine wt_getR dX12_table_138 FX12_52 (by assumption) (by assumption) ?_
              refine wa_bipush dX12_table_141 rfl ?_
              refine wa_iload_n dX12_table_143 rfl ?_
              refine wa_iconst dX12_table_144 ?_
              refine wa_isub dX12_table_145 ?_
              refine wa_imul dX12_table_146 ?_
              refine wa_aload_n dX12_table_147 rfl ?_
              refine wa_aload_n dX12_table_148 rfl ?_
              refine wt_getR dX12_table_149 FX12_7 (by assumption) (by assumption) ?_
              refine wa_bipush dX12_table_152 rfl ?_
              refine wa_iload_n dX12_table_154 rfl ?_
              refine wa_iadd dX12_table_155 ?_
              refine wt_iald (52 + t) dX12_table_156 (by assumption) (by omega) (by omega) ?_
              try first | rw [hn] | rw [q1] | rw [q2] | skip
              refine wa_callVf (ci := 12) dX12_table_157 KX12_classOf LX12_95 ⟨_, _, rfl, by decide⟩ o168 (k2) (by decide) rfl rfl (Nat.le_of_ble_eq_true rfl) rfl rfl ?_
              refine wa_iadd dX12_table_160 ?_
              refine wa_iload_n dX12_table_161 rfl ?_
              refine wt_iast (50 * (X.2.1 t - 4) + X.2.2.2.2.2 (X.2.2.1 t).toNat).toNat dX12_table_162 (by assumption) (by omega) (by omega) (by exact ⟨by omega, by omega⟩) ?_
              refine wa_goto 202 dX12_table_163 (by decide) ?_
              exact r1
          · omega
      · have hot : 0 ≤ X.2.2.2.1 t ∧ X.2.2.2.1 t < X.1 := by have := hw.2.2.2.2.2.2.2.2.2 (by omega); omega
        have ho2 := hX.1.2.2.1 (X.2.2.2.1 t).toNat (by omega)
        have k3 := c_mclassOf (I := J) (L := L) hL (X.2.2.2.1 t).toNat (by omega)
        rw [(hMJ.2 _ (by omega)).2.2.2.2, show (((X.2.2.2.1 t).toNat : Nat) : Int) = X.2.2.2.1 t by omega] at k3
        have eh2 : tmHome X.1 X.2.2.2.2.2 (X.2.2.2.1 t) = X.2.2.2.2.2 (X.2.2.2.1 t).toNat := tmHome_in hot
        have r1 := rest (va_up J 184 (va_up (J 184) (50 * X.2.2.2.2.2 (X.2.2.1 t).toNat + X.2.2.2.2.2 (X.2.2.2.1 t).toNat).toNat (X.2.2.2.2.2 t))) (fun a _ _ a3 => vup_n a3) (by
          rw [plM_3]
          unfold plS tKey
          rw [eh1, eh2]
          congr 1
          unfold tmKey
          rw [if_neg (by omega), if_neg (by omega), if_neg (by omega), if_neg c6, if_neg (by omega)]
          omega) (hJ.up ⟨by omega, by omega⟩)
        refine wa_iload_n dX12_table_91 rfl ?_
        refine wa_aload_n dX12_table_92 rfl ?_
        refine wt_getR dX12_table_93 FX12_7 (by assumption) (by assumption) ?_
        refine wa_iconst dX12_table_96 ?_
        refine wt_iald 0 dX12_table_97 (by assumption) rfl (by omega) ?_
        try first | rw [hn] | rw [q1] | rw [q2] | rw [q3] | skip
        refine wa_icmp_ge 252 dX12_table_98 (by decide) (by exact ⟨by omega, by omega⟩) (by exact ⟨by omega, by omega⟩) (fun c_98 => ?_) (fun c_98 => ?_)
        · omega
        · refine wa_aload_n dX12_table_101 rfl ?_
          refine wt_getR dX12_table_102 FX12_7 (by assumption) (by assumption) ?_
          refine wa_iconst dX12_table_105 ?_
          refine wa_iload_n dX12_table_106 rfl ?_
          refine wa_iadd dX12_table_107 ?_
          refine wt_iald (2 + t) dX12_table_108 (by assumption) (by omega) (by omega) ?_
          try first | rw [hn] | rw [q1] | rw [q2] | rw [q3] | skip
          refine wa_istore_n dX12_table_109 (by decide) ?_
          refine wa_aload_n dX12_table_110 rfl ?_
          refine wa_iload_n dX12_table_111 rfl ?_
          refine wa_callVf (ci := 12) dX12_table_112 KX12_classOf LX12_95 ⟨_, _, rfl, by decide⟩ o168 (k1) (by decide) rfl rfl (Nat.le_of_ble_eq_true rfl) rfl rfl ?_
          refine wa_istore_n dX12_table_115 (by decide) ?_
          refine wa_iload_n dX12_table_116 rfl ?_
          refine wa_iconst dX12_table_117 ?_
          refine wa_icmp_ge 131 dX12_table_118 (by decide) (by exact ⟨by omega, by omega⟩) (by exact ⟨by omega, by omega⟩) (fun c_118 => ?_) (fun c_118 => ?_)
          · refine wa_iload_n dX12_table_131 rfl ?_
            refine wa_bipush dX12_table_132 rfl ?_
            refine wa_icmp_ge 166 dX12_table_134 (by decide) (by exact ⟨by omega, by omega⟩) (by exact ⟨by omega, by omega⟩) (fun c_134 => ?_) (fun c_134 => ?_)
            · refine wa_aload_n dX12_table_166 rfl ?_
              refine wt_getR dX12_table_167 FX12_55 (by assumption) (by assumption) ?_
              refine wa_bipush dX12_table_170 rfl ?_
              refine wa_aload_n dX12_table_172 rfl ?_
              refine wa_aload_n dX12_table_173 rfl ?_
              refine wt_getR dX12_table_174 FX12_7 (by assumption) (by assumption) ?_
              refine wa_bipush dX12_table_177 rfl ?_
              refine wa_iload_n dX12_table_179 rfl ?_
              refine wa_iadd dX12_table_180 ?_
              refine wt_iald (52 + t) dX12_table_181 (by assumption) (by omega) (by omega) ?_
              try first | rw [hn] | rw [q1] | rw [q2] | rw [q3] | skip
              refine wa_callVf (ci := 12) dX12_table_182 KX12_classOf LX12_95 ⟨_, _, rfl, by decide⟩ o168 (k2) (by decide) rfl rfl (Nat.le_of_ble_eq_true rfl) rfl rfl ?_
              refine wa_imul dX12_table_185 ?_
              refine wa_aload_n dX12_table_186 rfl ?_
              refine wa_aload_n dX12_table_187 rfl ?_
              refine wt_getR dX12_table_188 FX12_7 (by assumption) (by assumption) ?_
              refine wa_bipush dX12_table_191 rfl ?_
              refine wa_iload_n dX12_table_193 rfl ?_
              refine wa_iadd dX12_table_194 ?_
              refine wt_iald (102 + t) dX12_table_195 (by assumption) (by omega) (by omega) ?_
              try first | rw [hn] | rw [q1] | rw [q2] | rw [q3] | skip
              refine wa_callVf (ci := 12) dX12_table_196 KX12_classOf LX12_95 ⟨_, _, rfl, by decide⟩ o168 (k3) (by decide) rfl rfl (Nat.le_of_ble_eq_true rfl) rfl rfl ?_
              refine wa_iadd dX12_table_199 ?_
              refine wa_iload_n dX12_table_200 rfl ?_
              refine wt_iast (50 * X.2.2.2.2.2 (X.2.2.1 t).toNat + X.2.2.2.2.2 (X.2.2.2.1 t).toNat).toNat dX12_table_201 (by assumption) (by omega) (by omega) (by exact ⟨by omega, by omega⟩) ?_
              exact r1
            · omega
          · omega
set_option maxRecDepth 20000 in
theorem c_mtable (hL : LX S) {X : TS} (hX : XOK X) (hM : MT I X) : tmC yX12_table kX12_table 2 0 0 [tR 168] (S, I, L) (MtPost S I L X) := by
  refine tmC.mk (lv := [some (tR 168), none, none, none]) 3 ⟨rfl, by decide +kernel, by decide⟩ rfl rfl ?_
  refine wt_ir (fun hI => ?_)
  have h50 := hX.1.1
  have fill : ∀ (f : Nat → Int) (k : Nat) (v : Int), (∀ j, inR (f j)) → inR v → ∀ j, inR (tmFill f k v j) := fun f k v h1 h2 j => by unfold tmFill; split; (exact h2); exact h1 j
  generalize e1 : va_up I 182 (tmFill (I 182) 4 (-1)) = J1
  have i1 : tmIR J1 := by rw [← e1]; exact hI.row (fill _ _ _ (hI 182) ⟨by decide, by decide⟩)
  have g1 : ∀ a, a ≠ 182 → J1 a = I a := fun a ha => by rw [← e1]; exact vup_n ha
  generalize e2 : va_up J1 183 (tmFill (J1 183) 100 (-1)) = J2
  have i2 : tmIR J2 := by rw [← e2]; exact i1.row (fill _ _ _ (i1 183) ⟨by decide, by decide⟩)
  have g2 : ∀ a, a ≠ 183 → J2 a = J1 a := fun a ha => by rw [← e2]; exact vup_n ha
  generalize e3 : va_up J2 184 (tmFill (J2 184) 2500 (-1)) = J3
  have i3 : tmIR J3 := by rw [← e3]; exact i2.row (fill _ _ _ (i2 184) ⟨by decide, by decide⟩)
  have g3 : ∀ a, a ≠ 184 → J3 a = J2 a := fun a ha => by rw [← e3]; exact vup_n ha
  generalize e4 : va_up J3 185 (tmFill (J3 185) X.1 99) = J4
  have i4 : tmIR J4 := by rw [← e4]; exact i3.row (fill _ _ _ (i3 185) ⟨by decide, by decide⟩)
  have g4 : ∀ a, a ≠ 185 → J4 a = J3 a := fun a ha => by rw [← e4]; exact vup_n ha
  have hpl : ∀ K, K < 2604 → plM J4 K = -1 := fun K hK => by
    unfold plM
    rw [g4 182 (by decide), g4 183 (by decide), g4 184 (by decide), g3 182 (by decide), g3 183 (by decide), g2 182 (by decide), ← e3, vup_s, ← e2, vup_s, ← e1, vup_s]
    unfold tmFill
    by_cases a : K < 4
    · rw [if_pos a, if_pos a]
    · rw [if_neg a]
      by_cases b : K < 104
      · rw [if_pos b, if_pos (by omega)]
      · rw [if_neg b, if_pos (by omega)]
  have lp := mtab_loop (I := I) (L := L) hL hX hM X.1 0 J4 none none (by omega) (fun a a1 a2 a3 a4 => by rw [g4 a a4, g3 a a3, g2 a a2, g1 a a1]) ⟨fun j hj => by omega, fun K hK hne => absurd (hpl K hK) hne⟩ i4
  have fin := lp.wk (Q2 := MtPost S I L X) (fun r h' hq => by
    obtain ⟨rfl, I', rfl, f, tb, ls⟩ := hq
    refine ⟨rfl, I', rfl, f, fun K hK => plT_tab tb.tab hK, fun c hc hcc => ?_⟩
    rw [ls]
    refine gn99 hX.1.2.2.1 hX.1.2.2.2 X.1 0 (fun _ => 9) (J4 185) (by omega) (fun x hx => Or.inr ⟨?_, rfl⟩) (fun x _ _ hx => by omega) c hc hcc
    rw [← e4, vup_s]; unfold tmFill; rw [if_pos hx])
  have n3 : J3 169 0 = (X.1 : Int) := by rw [g3 169 (by decide), g2 169 (by decide), g1 169 (by decide)]; exact hM.1
  have a4 := mtab_f4 (I := J3) (L := L) hL n3 h50 (MtPost S I L X) (by
    rw [e4]
    refine wa_iconst dX12_table_89 ?_
    refine wa_istore_n dX12_table_90 (by decide) ?_
    exact fin
    ) X.1 0 (by omega)
  rw [tmFill_0, vup_self] at a4
  have a3 := mtab_f3 (I := J2) (L := L) hL (MtPost S I L X) (by
    rw [e3]
    refine wa_iconst dX12_table_63 ?_
    refine wa_istore_n dX12_table_64 (by decide) ?_
    exact a4
    ) 2500 0 (by omega)
  rw [tmFill_0, vup_self] at a3
  have a2 := mtab_f2 (I := J1) (L := L) hL (MtPost S I L X) (by
    rw [e2]
    refine wa_iconst dX12_table_41 ?_
    refine wa_istore_n dX12_table_42 (by decide) ?_
    exact a3
    ) 100 0 (by omega)
  rw [tmFill_0, vup_self] at a2
  have a1 := mtab_f1 (I := I) (L := L) hL (MtPost S I L X) (by
    rw [e1]
    refine wa_iconst dX12_table_20 ?_
    refine wa_istore_n dX12_table_21 (by decide) ?_
    exact a2
    ) 4 0 (by omega)
  rw [tmFill_0, vup_self] at a1
  refine wa_iconst dX12_table_0 ?_
  refine wa_istore_n dX12_table_1 (by decide) ?_
  exact a1
end S99d
