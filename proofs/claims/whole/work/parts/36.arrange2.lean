/-! ===== 36: Round.arrange ===== -/
section S36
variable {S : tmS} {I : Nat → Nat → Int} {L : Nat → Nat → Int64}
abbrev ArPost (S : tmS) (I : Nat → Nat → Int) (L : Nat → Nat → Int64) (od : Int) (T : List E6) : Option tmV → tmH → Prop := fun q h' => q = none ∧ ∃ I', h' = (S, I', L) ∧ (∀ a, a ≠ 152 → a ≠ 153 → I' a = I a) ∧ ∀ p j : Nat, (SQK (kyOf od T) T.length 50)[p]? = some j → I' 152 p = (j : Int)
set_option maxRecDepth 20000 in
theorem arrange_3 (hL : LX S) {n nr : Nat} (hn : n ≤ 50) (hnr : nr ≤ 6) {T : List E6} (od : Int) (hod : inR od) (hg : ∀ e ∈ T, EGood n nr e) (hT : TdOK (I 150 1) (L 151) T) :
    ∀ (m i : Nat) (I' : Nat → Nat → Int) (x y : Option tmV), i + m = T.length → (∀ a, a ≠ 152 → a ≠ 153 → I' a = I a) → (∀ k, k < 50 → I' 153 k = (((List.range T.length).countP (fun i => decide (kyOf od T i < k)) + (List.range i).countP (fun i => kyOf od T i == k) : Nat) : Int)) → (∀ p j : Nat, (SQK (kyOf od T) T.length 50)[p]? = some j → j < i → I' 152 p = (j : Int)) →
    tmW kX3_arrange 3 0 0 77 [some (tR 149), some (tI od), some (tI i), x, y] [] (S, I', L) (ArPost S I L od T) := by
  intro m
  have o149 := oX149 hL
  have r149_0 := rX149_0 hL
  have r149_1 := rX149_1 hL
  have r149_2 := rX149_2 hL
  have r149_3 := rX149_3 hL
  have r149_4 := rX149_4 hL
  have r149_5 := rX149_5 hL
  have r149_6 := rX149_6 hL
  have r149_7 := rX149_7 hL
  have o150 := oX150 hL
  have r150_0 := rX150_0 hL
  have o151 := oX151 hL
  have o152 := oX152 hL
  have o153 := oX153 hL
  obtain ⟨t1, t2, t3⟩ := id hT
  have hky50 : ∀ j, j < T.length → kyOf od T j < 50 := fun j hj => by
    have he : T[j]? = some T[j] := List.getElem?_eq_getElem hj
    rw [kyOf_eq he]
    have := kf_rng hn hnr (hg _ (List.mem_of_getElem? he)) od
    omega
  induction m with
  | zero =>
    intro i I' x y him hfr hB hS
    have : i = T.length := by omega
    subst this
    have e150 : I' 150 1 = (T.length : Int) := by rw [hfr 150 (by decide) (by decide)]; exact t1
    refine wa_iload_n dX3_arrange_77 rfl ?_
    refine wa_aload_n dX3_arrange_78 rfl ?_
    refine wt_getR dX3_arrange_79 FX3_16 (by assumption) (by assumption) ?_
    refine wt_getI dX3_arrange_82 FX3_58 (by assumption) ?_
    try rw [e150]
    refine wa_icmp_ge 140 dX3_arrange_85 (by decide) (by exact ⟨by omega, by omega⟩) (by exact ⟨by omega, by omega⟩) (fun c_85 => ?_) (fun c_85 => ?_)
    · refine wa_return dX3_arrange_140 rfl ?_
      refine ⟨rfl, I', rfl, hfr, fun p j hp => hS p j hp ?_⟩
      have := List.mem_of_getElem? hp
      simp only [SQK, List.mem_flatMap, List.mem_filter, List.mem_range] at this
      obtain ⟨_, _, h3, _⟩ := this
      exact h3
    · omega
  | succ m ih =>
    intro i I' x y him hfr hB hS
    have hiT : i < T.length := by omega
    have e150 : I' 150 1 = (T.length : Int) := by rw [hfr 150 (by decide) (by decide)]; exact t1
    obtain ⟨e, he⟩ : ∃ e, T[i]? = some e := ⟨_, List.getElem?_eq_getElem (by omega)⟩
    have hge := hg e (List.mem_of_getElem? he)
    have hr := kf_rng hn hnr hge od
    have hky := kyOf_eq (od := od) he
    have hT' : TdOK (I' 150 1) (L 151) T := by rw [hfr 150 (by decide) (by decide)]; exact hT
    have ck := c_Rkey (I := I') (L := L) hL hn hnr hT' od hod he hge
    have hkf : kf od e = ((kyOf od T i : Nat) : Int) := by omega
    rw [hkf] at ck
    have hk50 := hky50 i hiT
    have hBk := hB (kyOf od T i) hk50
    have hrk := SQK_rk (kyOf od T) T.length i hiT hk50
    have hrl := (List.getElem?_eq_some_iff.mp hrk).1
    rw [SQK_all _ _ hky50] at hrl
    have hBr : I' 153 (kyOf od T i) = ((rk (kyOf od T) T.length i : Nat) : Int) := hBk
    have nx := fun x y => ih (i + 1) (va_up (va_up I' 153 (va_up (I' 153) (kyOf od T i) (((rk (kyOf od T) T.length i : Nat) : Int) + 1))) 152 (va_up (I' 152) (rk (kyOf od T) T.length i) (i : Int))) x y (by omega) (fun a a1 a2 => by rw [vup_n a1, vup_n a2]; exact hfr a a1 a2) (fun k hk => by
      rw [vup_n (by decide), vup_s, cnt_s]
      by_cases z : kyOf od T i = k
      · subst z; rw [vup_s]; simp [rk]; omega
      · rw [vup_n (by omega), hB k hk]; simp [z]) (fun p j hp hj => by
      rw [vup_s]
      by_cases z : p = rk (kyOf od T) T.length i
      · subst z
        rw [hrk] at hp
        have : i = j := by simpa using hp
        subst this
        rw [vup_s]
      · rw [vup_n z]
        refine hS p j hp ?_
        by_cases zj : j = i
        · subst zj
          exact absurd (SQK_uniq _ _ hp hrk) z
        · omega)
    refine wt_ir (fun hI => ?_)
    refine wa_iload_n dX3_arrange_77 rfl ?_
    refine wa_aload_n dX3_arrange_78 rfl ?_
    refine wt_getR dX3_arrange_79 FX3_16 (by assumption) (by assumption) ?_
    refine wt_getI dX3_arrange_82 FX3_58 (by assumption) ?_
    try try rw [e150]
    refine wa_icmp_ge 140 dX3_arrange_85 (by decide) (by first | exact hI _ _ | exact ⟨by omega, by omega⟩ | assumption) (by first | exact hI _ _ | exact ⟨by omega, by omega⟩ | assumption) (fun c_85 => ?_) (fun c_85 => ?_)
    · omega
    · refine wa_aload_n dX3_arrange_88 rfl ?_
      refine wa_iload_n dX3_arrange_89 rfl ?_
      refine wa_iload_n dX3_arrange_90 rfl ?_
      refine wa_callVf (ci := 3) dX3_arrange_91 KX3_keyOf LX3_88 ⟨_, _, rfl, by decide⟩ (by assumption) (ck) (by decide) rfl rfl (Nat.le_of_ble_eq_true rfl) rfl rfl ?_
      refine wa_istore_n dX3_arrange_94 (by decide) ?_
      refine wa_aload_n dX3_arrange_95 rfl ?_
      refine wt_getR dX3_arrange_96 FX3_24 (by assumption) (by assumption) ?_
      refine wa_iload_n dX3_arrange_99 rfl ?_
      refine wt_iald (kyOf od T i) dX3_arrange_100 (by assumption) rfl (by omega) ?_
      try try rw [e150]
      refine wa_istore dX3_arrange_101 (by decide) ?_
      refine wa_aload_n dX3_arrange_103 rfl ?_
      refine wt_getR dX3_arrange_104 FX3_24 (by assumption) (by assumption) ?_
      refine wa_iload_n dX3_arrange_107 rfl ?_
      refine wa_dup2 dX3_arrange_108 rfl rfl ?_
      refine wt_iald (kyOf od T i) dX3_arrange_109 (by assumption) rfl (by omega) ?_
      try try rw [e150]
      refine wa_iconst dX3_arrange_110 ?_
      refine wa_iadd dX3_arrange_111 ?_
      refine wt_iast (kyOf od T i) dX3_arrange_112 (by assumption) rfl (by omega) (by rw [hBr]; exact ⟨by omega, by omega⟩) ?_
      try rw [hBr]
      refine wa_iload dX3_arrange_113 rfl ?_
      refine wa_if_lt 134 dX3_arrange_115 (by decide) (by first | exact hI _ _ | exact ⟨by omega, by omega⟩ | assumption) (fun c_115 => ?_) (fun c_115 => ?_)
      · omega
      · refine wa_iload dX3_arrange_118 rfl ?_
        refine wa_sipush dX3_arrange_120 rfl ?_
        refine wa_icmp_ge 134 dX3_arrange_123 (by decide) (by first | exact hI _ _ | exact ⟨by omega, by omega⟩ | assumption) (by first | exact hI _ _ | exact ⟨by omega, by omega⟩ | assumption) (fun c_123 => ?_) (fun c_123 => ?_)
        · omega
        · refine wa_aload_n dX3_arrange_126 rfl ?_
          refine wt_getR dX3_arrange_127 FX3_20 (by assumption) (by assumption) ?_
          refine wa_iload dX3_arrange_130 rfl ?_
          refine wa_iload_n dX3_arrange_132 rfl ?_
          refine wt_iast (rk (kyOf od T) T.length i) dX3_arrange_133 (by assumption) rfl (by omega) (by first | exact hI _ _ | exact ⟨by omega, by omega⟩ | assumption) ?_
          refine wa_iinc dX3_arrange_134 rfl (by decide) ?_
          refine wa_goto 77 dX3_arrange_137 (by decide) ?_
          try rw [hBr]
          exact nx _ _
set_option maxRecDepth 20000 in
theorem arrange_2 (hL : LX S) (c : Nat → Nat) (mm : Nat) (hmm : mm ≤ 1200) (bl : Nat → Nat) (hb0 : bl 0 = 0) (hbs : ∀ k, bl (k + 1) = bl k + c k) (hbm : ∀ k, bl k ≤ mm) (od : Int) (Q : Option tmV → tmH → Prop)
    (kk : ∀ (B : Nat → Int) (x : Option tmV), (∀ k, k ≤ 50 → B k = (bl k : Int)) → tmW kX3_arrange 3 0 0 75 [some (tR 149), some (tI od), x, none, none] [] (S, va_up I 153 B, L) Q) :
    ∀ (m i : Nat) (B : Nat → Int), i + m = 51 → 1 ≤ i → (∀ k, k < i → B k = (bl k : Int)) → (∀ k, i ≤ k + 1 → k < 50 → B (k + 1) = (c k : Int)) →
    tmW kX3_arrange 3 0 0 46 [some (tR 149), some (tI od), some (tI i), none, none] [] (S, va_up I 153 B, L) Q := by
  intro m
  have o149 := oX149 hL
  have r149_0 := rX149_0 hL
  have r149_1 := rX149_1 hL
  have r149_2 := rX149_2 hL
  have r149_3 := rX149_3 hL
  have r149_4 := rX149_4 hL
  have r149_5 := rX149_5 hL
  have r149_6 := rX149_6 hL
  have r149_7 := rX149_7 hL
  have o150 := oX150 hL
  have r150_0 := rX150_0 hL
  have o151 := oX151 hL
  have o152 := oX152 hL
  have o153 := oX153 hL
  induction m with
  | zero =>
    intro i B him h1 hB hC
    have : i = 51 := by omega
    subst this
    refine wa_iload_n dX3_arrange_46 rfl ?_
    refine wa_bipush dX3_arrange_47 rfl ?_
    refine wa_icmp_gt 75 dX3_arrange_49 (by decide) (by exact ⟨by omega, by omega⟩) (by exact ⟨by omega, by omega⟩) (fun c_49 => ?_) (fun c_49 => ?_)
    · exact kk B _ (fun k hk => hB k (by omega))
    · omega
  | succ m ih =>
    intro i B him h1 hB hC
    obtain ⟨j, rfl⟩ : ∃ j, i = j + 1 := ⟨i - 1, by omega⟩
    have b1 := hB j (by omega)
    have b2 := hC j (by omega) (by omega)
    have s1 := hbs j
    have s2 := hbm (j + 1)
    have nx := ih (j + 1 + 1) (va_up B (j + 1) (bl (j + 1) : Nat)) (by omega) (by omega) (fun k hk => by
      by_cases z : k = j + 1
      · subst z; rw [vup_s]
      · rw [vup_n z]; exact hB k (by omega)) (fun k h1 h2 => by rw [vup_n (by omega)]; exact hC k (by omega) h2)
    refine wa_iload_n dX3_arrange_46 rfl ?_
    refine wa_bipush dX3_arrange_47 rfl ?_
    refine wa_icmp_gt 75 dX3_arrange_49 (by decide) (by exact ⟨by omega, by omega⟩) (by exact ⟨by omega, by omega⟩) (fun c_49 => ?_) (fun c_49 => ?_)
    · omega
    · refine wa_aload_n dX3_arrange_52 rfl ?_
      refine wt_getR dX3_arrange_53 FX3_24 (by assumption) (by assumption) ?_
      refine wa_iload_n dX3_arrange_56 rfl ?_
      refine wa_dup2 dX3_arrange_57 rfl rfl ?_
      refine wt_iald (j + 1) dX3_arrange_58 (by assumption) rfl (by omega) ?_
      refine wa_aload_n dX3_arrange_59 rfl ?_
      refine wt_getR dX3_arrange_60 FX3_24 (by assumption) (by assumption) ?_
      refine wa_iload_n dX3_arrange_63 rfl ?_
      refine wa_iconst dX3_arrange_64 ?_
      refine wa_isub dX3_arrange_65 ?_
      refine wt_iald j dX3_arrange_66 (by assumption) (by omega) (by omega) ?_
      refine wa_iadd dX3_arrange_67 ?_
      refine wt_iast (j + 1) dX3_arrange_68 (by assumption) rfl (by omega) (by rw [vup_s, b1, b2]; exact ⟨by omega, by omega⟩) ?_
      refine wa_iinc dX3_arrange_69 rfl (by decide) ?_
      refine wa_goto 46 dX3_arrange_72 (by decide) ?_
      rw [vup_s, vup_vup, b1, b2, show (c j : Int) + (bl j : Int) = ((bl (j + 1) : Nat) : Int) by omega]
      exact nx
set_option maxRecDepth 20000 in
theorem c_arrange (hL : LX S) {n nr : Nat} (hn : n ≤ 50) (hnr : nr ≤ 6) {T : List E6} (od : Int) (hod : inR od) (hg : ∀ e ∈ T, EGood n nr e) (hT : TdOK (I 150 1) (L 151) T) :
    tmC yX3_arrange kX3_arrange 3 0 0 [tR 149, tI od] (S, I, L) (ArPost S I L od T) := by
  refine tmC.mk (lv := [some (tR 149), some (tI od), none, none, none]) 3 ⟨rfl, by decide +kernel, by decide⟩ rfl rfl ?_
  have o149 := oX149 hL
  have r149_0 := rX149_0 hL
  have r149_1 := rX149_1 hL
  have r149_2 := rX149_2 hL
  have r149_3 := rX149_3 hL
  have r149_4 := rX149_4 hL
  have r149_5 := rX149_5 hL
  have r149_6 := rX149_6 hL
  have r149_7 := rX149_7 hL
  have o150 := oX150 hL
  have r150_0 := rX150_0 hL
  have o151 := oX151 hL
  have o152 := oX152 hL
  have o153 := oX153 hL
  have f0 : ∀ k, k < 51 → tmFill (I 153) 51 0 k = 0 := fun k hk => by unfold tmFill; rw [if_pos hk]
  have hb : ∀ k, (List.range T.length).countP (fun i => decide (kyOf od T i < k)) ≤ T.length := fun k => cnt_le _ _
  have l3 := arrange_3 (I := I) (L := L) hL hn hnr od hod hg hT T.length 0
  have l2 := arrange_2 (I := I) (L := L) hL (fun k => (List.range T.length).countP (fun i => kyOf od T i == k)) T.length hT.2.1 (fun k => (List.range T.length).countP (fun i => decide (kyOf od T i < k))) (by simp) (fun k => below_s _ _ k) hb od (ArPost S I L od T) (fun B x hB => by
    refine wa_iconst dX3_arrange_75 ?_
    refine wa_istore_n dX3_arrange_76 (by decide) ?_
    refine l3 _ _ _ (by omega) (fun a a1 a2 => vup_n a2) (fun k hk => ?_) (fun p j _ hj => by omega)
    rw [vup_s, hB k (by omega)]
    simp
    )
  have l1 := arrange_1 (I := I) (L := L) hL hn hnr od hod hg hT (ArPost S I L od T) (fun B x hB0 hB => by
    refine wa_iconst dX3_arrange_44 ?_
    refine wa_istore_n dX3_arrange_45 (by decide) ?_
    exact l2 50 1 B (by omega) (by omega) (fun k hk => by
      have : k = 0 := by omega
      subst this; rw [hB0]; simp) (fun k h1 h2 => hB k h2)
    ) T.length 0 (tmFill (I 153) 51 0) (by omega) (f0 0 (by decide)) (fun k hk => by rw [f0 _ (by omega)]; simp)
  refine wa_aload_n dX3_arrange_0 rfl ?_
  refine wt_getR dX3_arrange_1 FX3_24 (by assumption) (by assumption) ?_
  refine wa_iconst dX3_arrange_4 ?_
  refine wa_callSf dX3_arrange_5 KJ7_fill_53178 LX3_46 (c_fillI o153 0 ⟨by decide, by decide⟩) (by decide) rfl rfl (Nat.le_of_ble_eq_true rfl) rfl rfl ?_
  refine wa_iconst dX3_arrange_8 ?_
  refine wa_istore_n dX3_arrange_9 (by decide) ?_
  exact l1
end S36
