/-! ===== 98: the reference: term, alike, anew, of, same, classes ===== -/
section S98
variable {S : tmS} {I : Nat → Nat → Int} {L : Nat → Nat → Int64}
set_option maxRecDepth 20000 in
theorem MR.mt {A : AS} (h : MR I A) : MT I A.1.1 := h.1.1
-- a GENERATION is set to 0
set_option maxRecDepth 20000 in
theorem MT.g0 {X : TS} (h : MT I X) (h50 : X.1 ≤ 50) {t : Nat} (ht : t < X.1) : MT (va_up I 169 (va_up (I 169) (152 + t) 0)) (g0X X t) ∧ MFx I (va_up I 169 (va_up (I 169) (152 + t) 0)) := by
  refine ⟨⟨by rw [vup_s, vup_n (by omega)]; exact h.1, fun j hj => ?_⟩, fun a ha => vup_n ha, fun k hk => by rw [vup_s, vup_n (by omega)]⟩
  have hj : j < X.1 := hj
  obtain ⟨q1, q2, q3, q4, q5⟩ := h.2 j hj
  rw [vup_s]
  refine ⟨by rw [vup_n (by omega)]; exact q1, by rw [vup_n (by omega)]; exact q2, by rw [vup_n (by omega)]; exact q3, ?_, by rw [vup_n (by omega)]; exact q5⟩
  show va_up (I 169) (152 + t) 0 (152 + j) = va_up X.2.2.2.2.1 t 0 j
  by_cases z : j = t
  · subst z; rw [vup_s, vup_s]
  · rw [vup_n (by omega), vup_n z]; exact q4
-- term, behind keeps
set_option maxRecDepth 20000 in
theorem mterm_b {m : Nat} {A : AS} (hL : LX S) (hv : StV A.1) (h : MR I A) {s p q a b : Int} (hp : PtOK A.1.1.1 s a b) {o : Int × TS} (ho : tsCome A.1.1 s a b 0 = some o) : tmW kX12_term 4 0 0 111 [some (tR 168), some (tI s), some (tI p), some (tI q), some (tI a), some (tI b), none] [] (S, I, L) (MPost S I L (tI o.1) (aNow A (clX (g0X o.2 o.1.toNat), A.1.2))) := by
  have o168 := oX168 hL
  have r168_0 := rX168_0 hL
  have r168_1 := rX168_1 hL
  have r168_3 := rX168_3 hL
  have r168_4 := rX168_4 hL
  have r168_5 := rX168_5 hL
  have r168_6 := rX168_6 hL
  have r168_7 := rX168_7 hL
  have r168_8 := rX168_8 hL
  have r168_11 := rX168_11 hL
  have r168_13 := rX168_13 hL
  have r168_17 := rX168_17 hL
  have r168_18 := rX168_18 hL
  have r168_19 := rX168_19 hL
  have r168_21 := rX168_21 hL
  have r168_22 := rX168_22 hL
  have r168_23 := rX168_23 hL
  have r168_24 := rX168_24 hL
  have r168_25 := rX168_25 hL
  have r168_26 := rX168_26 hL
  have r168_27 := rX168_27 hL
  have r168_28 := rX168_28 hL
  have r168_29 := rX168_29 hL
  have r168_30 := rX168_30 hL
  have o169 := oX169 hL
  have h50 := hv.1.1.1
  obtain ⟨p1, p2, p3, p4, p5, p6⟩ := id hp
  have ra : inR a := by
    by_cases z : s < 4
    · rw [p3 z]; exact ⟨by omega, by omega⟩
    · have := p4 (by omega); exact ⟨by omega, by omega⟩
  have rb : inR b := by
    by_cases z : s < 6
    · rw [p5 z]; exact ⟨by omega, by omega⟩
    · have := p6 (by omega); exact ⟨by omega, by omega⟩
  have k1 := c_mcomes (I := I) (L := L) hL h.mt h50 s a b 0 ⟨by omega, by omega⟩ ra rb ⟨by omega, by omega⟩
  rw [ho] at k1
  obtain ⟨t, X1⟩ := o
  have hin := tsCome_in ho
  have hok := (tsCome_ok ho hv.1.1 hp ⟨by decide, by decide⟩).1
  have hin5 := hok.1
  have rest : ∀ J : Nat → Nat → Int, MT J X1 → MFx I J → tmW kX12_term 4 0 0 121 [some (tR 168), some (tI s), some (tI p), some (tI q), some (tI a), some (tI b), none] [tI t] (S, J, L) (MPost S I L (tI t) (aNow A (clX (g0X X1 t.toNat), A.1.2))) := by
    intro J j1 j2
    obtain ⟨g1, g2⟩ := j1.g0 hin5 (t := t.toNat) (by omega)
    have k2 := c_mcloses (I := va_up J 169 (va_up (J 169) (152 + t.toNat) 0)) (L := L) hL g1 (g0X_ok hok _)
    refine wa_istore dX12_term_121 (by decide) ?_
    refine wa_aload_n dX12_term_123 rfl ?_
    refine wt_getR dX12_term_124 FX12_7 (by assumption) (by assumption) ?_
    refine wa_sipush dX12_term_127 rfl ?_
    refine wa_iload dX12_term_130 rfl ?_
    refine wa_iadd dX12_term_132 ?_
    refine wa_iconst dX12_term_133 ?_
    refine wt_iast (152 + t.toNat) dX12_term_134 (by assumption) (by omega) (by omega) (by exact ⟨by omega, by omega⟩) ?_
    refine wa_aload_n dX12_term_135 rfl ?_
    refine wa_callV (ci := 12) dX12_term_136 KX12_closes LX12_123 ⟨_, _, rfl, by decide⟩ o168 (k2) (by decide) rfl (Nat.le_of_ble_eq_true rfl) rfl rfl (fun r h' hq => ?_)
    obtain ⟨rfl, K, rfl, m1, m2⟩ := hq
    refine wa_iload dX12_term_139 rfl ?_
    refine wa_ireturn dX12_term_141 rfl ?_
    exact ⟨rfl, K, rfl, h.fx hv m1 ((j2.trans' g2).trans' m2), ((j2.trans' g2).trans' m2).cf⟩
  refine wa_aload_n dX12_term_111 rfl ?_
  refine wa_iload_n dX12_term_112 rfl ?_
  refine wa_iload dX12_term_113 rfl ?_
  refine wa_iload dX12_term_115 rfl ?_
  refine wa_iconst dX12_term_117 ?_
  refine wa_callV (ci := 12) dX12_term_118 KX12_comes LX12_119 ⟨_, _, rfl, by decide⟩ o168 (k1) (by decide) rfl (Nat.le_of_ble_eq_true rfl) rfl rfl (fun r h' hq => ?_)
  obtain ⟨J, rfl, rfl, j1, j2⟩ := hq
  exact rest J j1 j2
set_option maxRecDepth 20000 in
theorem mterm_a {m : Nat} {A : AS} (hL : LX S) (ha : AOK m A) (hm : m ≤ 1000) (h : MR I A) {s p q a b : Int} (hp : PtOK A.1.1.1 s a b) : tmW kX12_term 4 0 0 77 [some (tR 168), some (tI s), some (tI p), some (tI q), some (tI a), some (tI b), none] [] (S, I, L) (match tsCome A.1.1 s a b 0 with
    | none => MPost S I L (tI (-4)) (aRf A 2)
    | some o => MPost S I L (tI o.1) (aNow (aKeep A) (clX (g0X o.2 o.1.toNat), A.1.2))) := by
  have o168 := oX168 hL
  have r168_0 := rX168_0 hL
  have r168_1 := rX168_1 hL
  have r168_3 := rX168_3 hL
  have r168_4 := rX168_4 hL
  have r168_5 := rX168_5 hL
  have r168_6 := rX168_6 hL
  have r168_7 := rX168_7 hL
  have r168_8 := rX168_8 hL
  have r168_11 := rX168_11 hL
  have r168_13 := rX168_13 hL
  have r168_17 := rX168_17 hL
  have r168_18 := rX168_18 hL
  have r168_19 := rX168_19 hL
  have r168_21 := rX168_21 hL
  have r168_22 := rX168_22 hL
  have r168_23 := rX168_23 hL
  have r168_24 := rX168_24 hL
  have r168_25 := rX168_25 hL
  have r168_26 := rX168_26 hL
  have r168_27 := rX168_27 hL
  have r168_28 := rX168_28 hL
  have r168_29 := rX168_29 hL
  have r168_30 := rX168_30 hL
  have o169 := oX169 hL
  have hv := ha.1
  have h50 := hv.1.1.1
  obtain ⟨p1, p2, p3, p4, p5, p6⟩ := id hp
  have ra : inR a := by
    by_cases z : s < 4
    · rw [p3 z]; exact ⟨by omega, by omega⟩
    · have := p4 (by omega); exact ⟨by omega, by omega⟩
  have rb : inR b := by
    by_cases z : s < 6
    · rw [p5 z]; exact ⟨by omega, by omega⟩
    · have := p6 (by omega); exact ⟨by omega, by omega⟩
  have k1 := c_mtermOf (I := I) (L := L) hL h.mt h50 s a b ⟨by omega, by omega⟩ ra rb
  have hin := tsLk_in A.1.1 s a b
  have hn := h.mt.1
  have hrf := c_mrf2 (L := L) hL ha hm h
  have hk := c_mkeeps (L := L) hL ha h
  have beh : ∀ o, tsCome A.1.1 s a b 0 = some o → tmW kX12_term 4 0 0 107 [some (tR 168), some (tI s), some (tI p), some (tI q), some (tI a), some (tI b), none] [] (S, I, L) (MPost S I L (tI o.1) (aNow (aKeep A) (clX (g0X o.2 o.1.toNat), A.1.2))) := by
    intro o ho
    refine wa_aload_n dX12_term_107 rfl ?_
    refine wa_callV (ci := 12) dX12_term_108 KX12_keeps LX12_116 ⟨_, _, rfl, by decide⟩ o168 (hk) (by decide) rfl (Nat.le_of_ble_eq_true rfl) rfl rfl (fun r h' hq => ?_)
    obtain ⟨rfl, J, rfl, j1, j2, j3⟩ := hq
    refine (mterm_b (m := m) hL (A := aKeep A) hv j1 hp ho).wk (fun r h'' hr => ?_)
    obtain ⟨rfl, K, rfl, r1, r2⟩ := hr
    exact ⟨rfl, K, rfl, r1, j2.trans' r2⟩
  by_cases c : tsLk A.1.1 s a b = -1
  · rw [c] at k1
    by_cases c5 : A.1.1.1 < 50
    · have ho : tsCome A.1.1 s a b 0 = some ((A.1.1.1 : Int), tsAdd A.1.1 s a b 0) := by unfold tsCome; rw [if_pos c, if_pos c5]
      rw [ho]
      have := beh _ ho
      refine wa_aload_n dX12_term_77 rfl ?_
      refine wa_iload_n dX12_term_78 rfl ?_
      refine wa_iload dX12_term_79 rfl ?_
      refine wa_iload dX12_term_81 rfl ?_
      refine wa_callVf (ci := 12) dX12_term_83 KX12_termOf LX12_87 ⟨_, _, rfl, by decide⟩ o168 (k1) (by decide) rfl rfl (Nat.le_of_ble_eq_true rfl) rfl rfl ?_
      refine wa_if_ge 107 dX12_term_86 (by decide) (by exact ⟨by omega, by omega⟩) (fun c_86 => ?_) (fun c_86 => ?_)
      · omega
      · refine wa_aload_n dX12_term_89 rfl ?_
        refine wt_getR dX12_term_90 FX12_7 (by assumption) (by assumption) ?_
        refine wa_iconst dX12_term_93 ?_
        refine wt_iald 0 dX12_term_94 (by assumption) rfl (by omega) ?_
        try rw [hn]
        refine wa_bipush dX12_term_95 rfl ?_
        refine wa_icmp_ne 107 dX12_term_97 (by decide) (by exact ⟨by omega, by omega⟩) (by exact ⟨by omega, by omega⟩) (fun c_97 => ?_) (fun c_97 => ?_)
        · exact this
        · omega
    · have ho : tsCome A.1.1 s a b 0 = none := by unfold tsCome; rw [if_pos c, if_neg c5]
      rw [ho]
      refine wa_aload_n dX12_term_77 rfl ?_
      refine wa_iload_n dX12_term_78 rfl ?_
      refine wa_iload dX12_term_79 rfl ?_
      refine wa_iload dX12_term_81 rfl ?_
      refine wa_callVf (ci := 12) dX12_term_83 KX12_termOf LX12_87 ⟨_, _, rfl, by decide⟩ o168 (k1) (by decide) rfl rfl (Nat.le_of_ble_eq_true rfl) rfl rfl ?_
      refine wa_if_ge 107 dX12_term_86 (by decide) (by exact ⟨by omega, by omega⟩) (fun c_86 => ?_) (fun c_86 => ?_)
      · omega
      · refine wa_aload_n dX12_term_89 rfl ?_
        refine wt_getR dX12_term_90 FX12_7 (by assumption) (by assumption) ?_
        refine wa_iconst dX12_term_93 ?_
        refine wt_iald 0 dX12_term_94 (by assumption) rfl (by omega) ?_
        try rw [hn]
        refine wa_bipush dX12_term_95 rfl ?_
        refine wa_icmp_ne 107 dX12_term_97 (by decide) (by exact ⟨by omega, by omega⟩) (by exact ⟨by omega, by omega⟩) (fun c_97 => ?_) (fun c_97 => ?_)
        · omega
        · refine wa_aload_n dX12_term_100 rfl ?_
          refine wa_bipush dX12_term_101 rfl ?_
          refine wa_callV (ci := 12) dX12_term_103 KX12_refuses LX12_113 ⟨_, _, rfl, by decide⟩ o168 (hrf) (by decide) rfl (Nat.le_of_ble_eq_true rfl) rfl rfl (fun r h' hq => ?_)
          obtain ⟨rfl, hq⟩ := hq
          refine wa_ireturn dX12_term_106 rfl ?_
          exact ⟨rfl, hq⟩
  · have ho : tsCome A.1.1 s a b 0 = some (tsLk A.1.1 s a b, A.1.1) := by unfold tsCome; rw [if_neg c]
    rw [ho]
    have := beh _ ho
    refine wa_aload_n dX12_term_77 rfl ?_
    refine wa_iload_n dX12_term_78 rfl ?_
    refine wa_iload dX12_term_79 rfl ?_
    refine wa_iload dX12_term_81 rfl ?_
    refine wa_callVf (ci := 12) dX12_term_83 KX12_termOf LX12_87 ⟨_, _, rfl, by decide⟩ o168 (k1) (by decide) rfl rfl (Nat.le_of_ble_eq_true rfl) rfl rfl ?_
    refine wa_if_ge 107 dX12_term_86 (by decide) (by exact ⟨by omega, by omega⟩) (fun c_86 => ?_) (fun c_86 => ?_)
    · exact this
    · omega
set_option maxRecDepth 20000 in
theorem c_mterm {m : Nat} {A : AS} (hL : LX S) (ha : AOK m A) (hm : m ≤ 1000) (h : MR I A) (s p q : Int) (hs : inR s) (hp : inR p) (hq0 : inR q) : tmC yX12_term kX12_term 4 0 0 [tR 168, tI s, tI p, tI q] (S, I, L) (MPost S I L (tI (spTerm A s p q).1) (spTerm A s p q).2) := by
  refine tmC.mk (lv := [some (tR 168), some (tI s), some (tI p), some (tI q), none, none, none]) 3 ⟨rfl, by decide +kernel, by decide⟩ rfl rfl ?_
  have o168 := oX168 hL
  have r168_0 := rX168_0 hL
  have r168_1 := rX168_1 hL
  have r168_3 := rX168_3 hL
  have r168_4 := rX168_4 hL
  have r168_5 := rX168_5 hL
  have r168_6 := rX168_6 hL
  have r168_7 := rX168_7 hL
  have r168_8 := rX168_8 hL
  have r168_11 := rX168_11 hL
  have r168_13 := rX168_13 hL
  have r168_17 := rX168_17 hL
  have r168_18 := rX168_18 hL
  have r168_19 := rX168_19 hL
  have r168_21 := rX168_21 hL
  have r168_22 := rX168_22 hL
  have r168_23 := rX168_23 hL
  have r168_24 := rX168_24 hL
  have r168_25 := rX168_25 hL
  have r168_26 := rX168_26 hL
  have r168_27 := rX168_27 hL
  have r168_28 := rX168_28 hL
  have r168_29 := rX168_29 hL
  have r168_30 := rX168_30 hL
  have hrf := c_mrf0 (L := L) hL ha hm h
  have h50 := ha.1.1.1.1
  have k0 := c_min (h := (S, I, L)) s 0 6 hs ⟨by decide, by decide⟩ ⟨by decide, by decide⟩
  have k1 := c_misTerm (I := I) (L := L) hL h.mt.1 h50 p hp
  have k2 := c_misTerm (I := I) (L := L) hL h.mt.1 h50 q hq0
  have ka := c_marity (h := (S, I, L)) s hs
  have good : ∀ {a b : Int}, (0 ≤ s ∧ s ≤ 6) → (4 ≤ s → isT A p) → (s = 6 → isT A q) → a = (if 4 ≤ s then p else -1) → b = (if s = 6 then q else -1) → tmW kX12_term 4 0 0 77 [some (tR 168), some (tI s), some (tI p), some (tI q), some (tI a), some (tI b), none] [] (S, I, L) (MPost S I L (tI (spTerm A s p q).1) (spTerm A s p q).2) := by
    intro a b g1 g2 g3 ea eb
    have hpt : PtOK A.1.1.1 s a b := by
      subst ea; subst eb
      refine ⟨g1.1, g1.2, fun z => if_neg (by omega), fun z => ?_, fun z => if_neg (by omega), fun z => ?_⟩
      · rw [if_pos z]; exact g2 z
      · rw [if_pos z]; exact g3 z
    have := mterm_a (L := L) hL ha hm h (p := p) (q := q) hpt
    unfold spTerm
    rw [if_pos ⟨g1, g2, g3⟩, ← ea, ← eb]
    cases hc : tsCome A.1.1 s a b 0 with
    | none => rw [hc] at this; exact this
    | some o => rw [hc] at this; exact this
  have bad : ¬ ((0 ≤ s ∧ s ≤ 6) ∧ (4 ≤ s → isT A p) ∧ (s = 6 → isT A q)) → spTerm A s p q = (-2, aRf A 0) := fun z => by unfold spTerm; rw [if_neg z]
  by_cases c1 : 0 ≤ s ∧ s ≤ 6
  · rw [if_pos c1] at k0
    by_cases c4 : s < 4
    · have ea : arX s = 0 := by unfold arX; rw [if_pos (Or.inl c4)]
      rw [ea] at ka
      refine wa_iload_n dX12_term_0 rfl ?_
      refine wa_iconst dX12_term_1 ?_
      refine wa_bipush dX12_term_2 rfl ?_
      refine wa_callSf dX12_term_4 KX12_in LX12_79 (k0) (by decide) rfl rfl (Nat.le_of_ble_eq_true rfl) rfl rfl ?_
      refine wa_if_eq 41 dX12_term_7 (by decide) (by exact ⟨by omega, by omega⟩) (fun c_7 => ?_) (fun c_7 => ?_)
      · omega
      · refine wa_iload_n dX12_term_10 rfl ?_
        refine wa_callSf dX12_term_11 KX12_arity LX12_106 (ka) (by decide) rfl rfl (Nat.le_of_ble_eq_true rfl) rfl rfl ?_
        refine wa_if_le 25 dX12_term_14 (by decide) (by exact ⟨by omega, by omega⟩) (fun c_14 => ?_) (fun c_14 => ?_)
        · refine wa_iload_n dX12_term_25 rfl ?_
          refine wa_callSf dX12_term_26 KX12_arity LX12_106 (ka) (by decide) rfl rfl (Nat.le_of_ble_eq_true rfl) rfl rfl ?_
          refine wa_iconst dX12_term_29 ?_
          refine wa_icmp_le 48 dX12_term_30 (by decide) (by exact ⟨by omega, by omega⟩) (by exact ⟨by omega, by omega⟩) (fun c_30 => ?_) (fun c_30 => ?_)
          · refine wa_iload_n dX12_term_48 rfl ?_
            refine wa_callSf dX12_term_49 KX12_arity LX12_106 (ka) (by decide) rfl rfl (Nat.le_of_ble_eq_true rfl) rfl rfl ?_
            refine wa_if_le 59 dX12_term_52 (by decide) (by exact ⟨by omega, by omega⟩) (fun c_52 => ?_) (fun c_52 => ?_)
            · refine wa_iconst dX12_term_59 ?_
              refine wa_istore dX12_term_60 (by decide) ?_
              refine wa_iload_n dX12_term_62 rfl ?_
              refine wa_callSf dX12_term_63 KX12_arity LX12_106 (ka) (by decide) rfl rfl (Nat.le_of_ble_eq_true rfl) rfl rfl ?_
              refine wa_iconst dX12_term_66 ?_
              refine wa_icmp_le 74 dX12_term_67 (by decide) (by exact ⟨by omega, by omega⟩) (by exact ⟨by omega, by omega⟩) (fun c_67 => ?_) (fun c_67 => ?_)
              · refine wa_iconst dX12_term_74 ?_
                refine wa_istore dX12_term_75 (by decide) ?_
                exact good c1 (fun z => by omega) (fun z => by omega) (by rw [if_neg (by omega)]) (by rw [if_neg (by omega)])
              · omega
            · omega
          · omega
        · omega
    · by_cases cp : isT A p
      · rw [if_pos cp] at k1
        by_cases c6 : s = 6
        · have ea : arX s = 2 := by unfold arX; rw [if_neg (by omega), if_neg (by omega)]
          rw [ea] at ka
          by_cases cq : isT A q
          · rw [if_pos cq] at k2
            refine wa_iload_n dX12_term_0 rfl ?_
            refine wa_iconst dX12_term_1 ?_
            refine wa_bipush dX12_term_2 rfl ?_
            refine wa_callSf dX12_term_4 KX12_in LX12_79 (k0) (by decide) rfl rfl (Nat.le_of_ble_eq_true rfl) rfl rfl ?_
            refine wa_if_eq 41 dX12_term_7 (by decide) (by exact ⟨by omega, by omega⟩) (fun c_7 => ?_) (fun c_7 => ?_)
            · omega
            · refine wa_iload_n dX12_term_10 rfl ?_
              refine wa_callSf dX12_term_11 KX12_arity LX12_106 (ka) (by decide) rfl rfl (Nat.le_of_ble_eq_true rfl) rfl rfl ?_
              refine wa_if_le 25 dX12_term_14 (by decide) (by exact ⟨by omega, by omega⟩) (fun c_14 => ?_) (fun c_14 => ?_)
              · omega
              · refine wa_aload_n dX12_term_17 rfl ?_
                refine wa_iload_n dX12_term_18 rfl ?_
                refine wa_callVf (ci := 12) dX12_term_19 KX12_isTerm LX12_109 ⟨_, _, rfl, by decide⟩ o168 (k1) (by decide) rfl rfl (Nat.le_of_ble_eq_true rfl) rfl rfl ?_
                refine wa_if_eq 41 dX12_term_22 (by decide) (by exact ⟨by omega, by omega⟩) (fun c_22 => ?_) (fun c_22 => ?_)
                · omega
                · refine wa_iload_n dX12_term_25 rfl ?_
                  refine wa_callSf dX12_term_26 KX12_arity LX12_106 (ka) (by decide) rfl rfl (Nat.le_of_ble_eq_true rfl) rfl rfl ?_
                  refine wa_iconst dX12_term_29 ?_
                  refine wa_icmp_le 48 dX12_term_30 (by decide) (by exact ⟨by omega, by omega⟩) (by exact ⟨by omega, by omega⟩) (fun c_30 => ?_) (fun c_30 => ?_)
                  · omega
                  · refine wa_aload_n dX12_term_33 rfl ?_
                    refine wa_iload_n dX12_term_34 rfl ?_
                    refine wa_callVf (ci := 12) dX12_term_35 KX12_isTerm LX12_109 ⟨_, _, rfl, by decide⟩ o168 (k2) (by decide) rfl rfl (Nat.le_of_ble_eq_true rfl) rfl rfl ?_
                    refine wa_if_ne 48 dX12_term_38 (by decide) (by exact ⟨by omega, by omega⟩) (fun c_38 => ?_) (fun c_38 => ?_)
                    · refine wa_iload_n dX12_term_48 rfl ?_
                      refine wa_callSf dX12_term_49 KX12_arity LX12_106 (ka) (by decide) rfl rfl (Nat.le_of_ble_eq_true rfl) rfl rfl ?_
                      refine wa_if_le 59 dX12_term_52 (by decide) (by exact ⟨by omega, by omega⟩) (fun c_52 => ?_) (fun c_52 => ?_)
                      · omega
                      · refine wa_iload_n dX12_term_55 rfl ?_
                        refine wa_goto 60 dX12_term_56 (by decide) ?_
                        refine wa_istore dX12_term_60 (by decide) ?_
                        refine wa_iload_n dX12_term_62 rfl ?_
                        refine wa_callSf dX12_term_63 KX12_arity LX12_106 (ka) (by decide) rfl rfl (Nat.le_of_ble_eq_true rfl) rfl rfl ?_
                        refine wa_iconst dX12_term_66 ?_
                        refine wa_icmp_le 74 dX12_term_67 (by decide) (by exact ⟨by omega, by omega⟩) (by exact ⟨by omega, by omega⟩) (fun c_67 => ?_) (fun c_67 => ?_)
                        · omega
                        · refine wa_iload_n dX12_term_70 rfl ?_
                          refine wa_goto 75 dX12_term_71 (by decide) ?_
                          refine wa_istore dX12_term_75 (by decide) ?_
                          exact good c1 (fun _ => cp) (fun _ => cq) (by rw [if_pos (by omega)]) (by rw [if_pos c6])
                    · omega
          · rw [if_neg cq] at k2
            rw [bad (fun z => cq (z.2.2 c6))]
            refine wa_iload_n dX12_term_0 rfl ?_
            refine wa_iconst dX12_term_1 ?_
            refine wa_bipush dX12_term_2 rfl ?_
            refine wa_callSf dX12_term_4 KX12_in LX12_79 (k0) (by decide) rfl rfl (Nat.le_of_ble_eq_true rfl) rfl rfl ?_
            refine wa_if_eq 41 dX12_term_7 (by decide) (by exact ⟨by omega, by omega⟩) (fun c_7 => ?_) (fun c_7 => ?_)
            · omega
            · refine wa_iload_n dX12_term_10 rfl ?_
              refine wa_callSf dX12_term_11 KX12_arity LX12_106 (ka) (by decide) rfl rfl (Nat.le_of_ble_eq_true rfl) rfl rfl ?_
              refine wa_if_le 25 dX12_term_14 (by decide) (by exact ⟨by omega, by omega⟩) (fun c_14 => ?_) (fun c_14 => ?_)
              · omega
              · refine wa_aload_n dX12_term_17 rfl ?_
                refine wa_iload_n dX12_term_18 rfl ?_
                refine wa_callVf (ci := 12) dX12_term_19 KX12_isTerm LX12_109 ⟨_, _, rfl, by decide⟩ o168 (k1) (by decide) rfl rfl (Nat.le_of_ble_eq_true rfl) rfl rfl ?_
                refine wa_if_eq 41 dX12_term_22 (by decide) (by exact ⟨by omega, by omega⟩) (fun c_22 => ?_) (fun c_22 => ?_)
                · omega
                · refine wa_iload_n dX12_term_25 rfl ?_
                  refine wa_callSf dX12_term_26 KX12_arity LX12_106 (ka) (by decide) rfl rfl (Nat.le_of_ble_eq_true rfl) rfl rfl ?_
                  refine wa_iconst dX12_term_29 ?_
                  refine wa_icmp_le 48 dX12_term_30 (by decide) (by exact ⟨by omega, by omega⟩) (by exact ⟨by omega, by omega⟩) (fun c_30 => ?_) (fun c_30 => ?_)
                  · omega
                  · refine wa_aload_n dX12_term_33 rfl ?_
                    refine wa_iload_n dX12_term_34 rfl ?_
                    refine wa_callVf (ci := 12) dX12_term_35 KX12_isTerm LX12_109 ⟨_, _, rfl, by decide⟩ o168 (k2) (by decide) rfl rfl (Nat.le_of_ble_eq_true rfl) rfl rfl ?_
                    refine wa_if_ne 48 dX12_term_38 (by decide) (by exact ⟨by omega, by omega⟩) (fun c_38 => ?_) (fun c_38 => ?_)
                    · omega
                    · refine wa_aload_n dX12_term_41 rfl ?_
                      refine wa_bipush dX12_term_42 rfl ?_
                      refine wa_callV (ci := 12) dX12_term_44 KX12_refuses LX12_113 ⟨_, _, rfl, by decide⟩ o168 (hrf) (by decide) rfl (Nat.le_of_ble_eq_true rfl) rfl rfl (fun r h' hq => ?_)
                      obtain ⟨rfl, hq⟩ := hq
                      refine wa_ireturn dX12_term_47 rfl ?_
                      exact ⟨rfl, hq⟩
        · have ea : arX s = 1 := by unfold arX; rw [if_neg (by omega), if_pos (by omega)]
          rw [ea] at ka
          refine wa_iload_n dX12_term_0 rfl ?_
          refine wa_iconst dX12_term_1 ?_
          refine wa_bipush dX12_term_2 rfl ?_
          refine wa_callSf dX12_term_4 KX12_in LX12_79 (k0) (by decide) rfl rfl (Nat.le_of_ble_eq_true rfl) rfl rfl ?_
          refine wa_if_eq 41 dX12_term_7 (by decide) (by exact ⟨by omega, by omega⟩) (fun c_7 => ?_) (fun c_7 => ?_)
          · omega
          · refine wa_iload_n dX12_term_10 rfl ?_
            refine wa_callSf dX12_term_11 KX12_arity LX12_106 (ka) (by decide) rfl rfl (Nat.le_of_ble_eq_true rfl) rfl rfl ?_
            refine wa_if_le 25 dX12_term_14 (by decide) (by exact ⟨by omega, by omega⟩) (fun c_14 => ?_) (fun c_14 => ?_)
            · omega
            · refine wa_aload_n dX12_term_17 rfl ?_
              refine wa_iload_n dX12_term_18 rfl ?_
              refine wa_callVf (ci := 12) dX12_term_19 KX12_isTerm LX12_109 ⟨_, _, rfl, by decide⟩ o168 (k1) (by decide) rfl rfl (Nat.le_of_ble_eq_true rfl) rfl rfl ?_
              refine wa_if_eq 41 dX12_term_22 (by decide) (by exact ⟨by omega, by omega⟩) (fun c_22 => ?_) (fun c_22 => ?_)
              · omega
              · refine wa_iload_n dX12_term_25 rfl ?_
                refine wa_callSf dX12_term_26 KX12_arity LX12_106 (ka) (by decide) rfl rfl (Nat.le_of_ble_eq_true rfl) rfl rfl ?_
                refine wa_iconst dX12_term_29 ?_
                refine wa_icmp_le 48 dX12_term_30 (by decide) (by exact ⟨by omega, by omega⟩) (by exact ⟨by omega, by omega⟩) (fun c_30 => ?_) (fun c_30 => ?_)
                · refine wa_iload_n dX12_term_48 rfl ?_
                  refine wa_callSf dX12_term_49 KX12_arity LX12_106 (ka) (by decide) rfl rfl (Nat.le_of_ble_eq_true rfl) rfl rfl ?_
                  refine wa_if_le 59 dX12_term_52 (by decide) (by exact ⟨by omega, by omega⟩) (fun c_52 => ?_) (fun c_52 => ?_)
                  · omega
                  · refine wa_iload_n dX12_term_55 rfl ?_
                    refine wa_goto 60 dX12_term_56 (by decide) ?_
                    refine wa_istore dX12_term_60 (by decide) ?_
                    refine wa_iload_n dX12_term_62 rfl ?_
                    refine wa_callSf dX12_term_63 KX12_arity LX12_106 (ka) (by decide) rfl rfl (Nat.le_of_ble_eq_true rfl) rfl rfl ?_
                    refine wa_iconst dX12_term_66 ?_
                    refine wa_icmp_le 74 dX12_term_67 (by decide) (by exact ⟨by omega, by omega⟩) (by exact ⟨by omega, by omega⟩) (fun c_67 => ?_) (fun c_67 => ?_)
                    · refine wa_iconst dX12_term_74 ?_
                      refine wa_istore dX12_term_75 (by decide) ?_
                      exact good c1 (fun _ => cp) (fun z => absurd z c6) (by rw [if_pos (by omega)]) (by rw [if_neg c6])
                    · omega
                · omega
      · rw [if_neg cp] at k1
        rw [bad (fun z => cp (z.2.1 (by omega)))]
        have ea : 0 < arX s ∧ arX s ≤ 2 := by unfold arX; rw [if_neg (by omega)]; split <;> omega
        refine wa_iload_n dX12_term_0 rfl ?_
        refine wa_iconst dX12_term_1 ?_
        refine wa_bipush dX12_term_2 rfl ?_
        refine wa_callSf dX12_term_4 KX12_in LX12_79 (k0) (by decide) rfl rfl (Nat.le_of_ble_eq_true rfl) rfl rfl ?_
        refine wa_if_eq 41 dX12_term_7 (by decide) (by exact ⟨by omega, by omega⟩) (fun c_7 => ?_) (fun c_7 => ?_)
        · omega
        · refine wa_iload_n dX12_term_10 rfl ?_
          refine wa_callSf dX12_term_11 KX12_arity LX12_106 (ka) (by decide) rfl rfl (Nat.le_of_ble_eq_true rfl) rfl rfl ?_
          refine wa_if_le 25 dX12_term_14 (by decide) (by exact ⟨by omega, by omega⟩) (fun c_14 => ?_) (fun c_14 => ?_)
          · omega
          · refine wa_aload_n dX12_term_17 rfl ?_
            refine wa_iload_n dX12_term_18 rfl ?_
            refine wa_callVf (ci := 12) dX12_term_19 KX12_isTerm LX12_109 ⟨_, _, rfl, by decide⟩ o168 (k1) (by decide) rfl rfl (Nat.le_of_ble_eq_true rfl) rfl rfl ?_
            refine wa_if_eq 41 dX12_term_22 (by decide) (by exact ⟨by omega, by omega⟩) (fun c_22 => ?_) (fun c_22 => ?_)
            · refine wa_aload_n dX12_term_41 rfl ?_
              refine wa_bipush dX12_term_42 rfl ?_
              refine wa_callV (ci := 12) dX12_term_44 KX12_refuses LX12_113 ⟨_, _, rfl, by decide⟩ o168 (hrf) (by decide) rfl (Nat.le_of_ble_eq_true rfl) rfl rfl (fun r h' hq => ?_)
              obtain ⟨rfl, hq⟩ := hq
              refine wa_ireturn dX12_term_47 rfl ?_
              exact ⟨rfl, hq⟩
            · omega
  · rw [if_neg c1] at k0
    rw [bad (fun z => c1 z.1)]
    refine wa_iload_n dX12_term_0 rfl ?_
    refine wa_iconst dX12_term_1 ?_
    refine wa_bipush dX12_term_2 rfl ?_
    refine wa_callSf dX12_term_4 KX12_in LX12_79 (k0) (by decide) rfl rfl (Nat.le_of_ble_eq_true rfl) rfl rfl ?_
    refine wa_if_eq 41 dX12_term_7 (by decide) (by exact ⟨by omega, by omega⟩) (fun c_7 => ?_) (fun c_7 => ?_)
    · refine wa_aload_n dX12_term_41 rfl ?_
      refine wa_bipush dX12_term_42 rfl ?_
      refine wa_callV (ci := 12) dX12_term_44 KX12_refuses LX12_113 ⟨_, _, rfl, by decide⟩ o168 (hrf) (by decide) rfl (Nat.le_of_ble_eq_true rfl) rfl rfl (fun r h' hq => ?_)
      obtain ⟨rfl, hq⟩ := hq
      refine wa_ireturn dX12_term_47 rfl ?_
      exact ⟨rfl, hq⟩
    · omega
-- alike, behind keeps
set_option maxRecDepth 20000 in
theorem malike_b {A : AS} (hL : LX S) (hv : StV A.1) (h : MR I A) {t u : Nat} (ht : t < A.1.1.1) (hu : u < A.1.1.1) : tmW kX12_alike 4 0 0 27 [some (tR 168), some (tI t), some (tI u), none] [] (S, I, L) (MPost S I L (tI ((nCls A.1.1.1 A.1.1.2.2.2.2.2 : Int) - (nCls A.1.1.1 (clX (jnX A.1.1 t u)).2.2.2.2.2 : Int))) (aNow A (clX (jnX A.1.1 t u), A.1.2))) := by
  have o168 := oX168 hL
  have r168_0 := rX168_0 hL
  have r168_1 := rX168_1 hL
  have r168_3 := rX168_3 hL
  have r168_4 := rX168_4 hL
  have r168_5 := rX168_5 hL
  have r168_6 := rX168_6 hL
  have r168_7 := rX168_7 hL
  have r168_8 := rX168_8 hL
  have r168_11 := rX168_11 hL
  have r168_13 := rX168_13 hL
  have r168_17 := rX168_17 hL
  have r168_18 := rX168_18 hL
  have r168_19 := rX168_19 hL
  have r168_21 := rX168_21 hL
  have r168_22 := rX168_22 hL
  have r168_23 := rX168_23 hL
  have r168_24 := rX168_24 hL
  have r168_25 := rX168_25 hL
  have r168_26 := rX168_26 hL
  have r168_27 := rX168_27 hL
  have r168_28 := rX168_28 hL
  have r168_29 := rX168_29 hL
  have r168_30 := rX168_30 hL
  have o169 := oX169 hL
  have h50 := hv.1.1.1
  have hn := h.mt.1
  have k1 := c_mnCls (I := I) (L := L) hL h.mt h50 (Nat.le_refl _)
  have k2 := c_mjoins (I := I) (L := L) hL h.mt hv.1.1 t u ht hu
  have r2 : ∀ K : Nat → Nat → Int, MT K (clX (jnX A.1.1 t u)) → MFx I K → tmW kX12_alike 4 0 0 49 [some (tR 168), some (tI t), some (tI u), some (tI (nCls A.1.1.1 A.1.1.2.2.2.2.2 : Nat))] [] (S, K, L) (MPost S I L (tI ((nCls A.1.1.1 A.1.1.2.2.2.2.2 : Int) - (nCls A.1.1.1 (clX (jnX A.1.1 t u)).2.2.2.2.2 : Int))) (aNow A (clX (jnX A.1.1 t u), A.1.2))) := by
    intro K m1 m2
    have hnK : K 169 0 = (A.1.1.1 : Int) := m1.1
    have k4 := c_mnCls (I := K) (L := L) hL m1 h50 (Nat.le_refl _)
    refine wa_iload_n dX12_alike_49 rfl ?_
    refine wa_aload_n dX12_alike_50 rfl ?_
    refine wa_aload_n dX12_alike_51 rfl ?_
    refine wt_getR dX12_alike_52 FX12_7 (by assumption) (by assumption) ?_
    refine wa_iconst dX12_alike_55 ?_
    refine wt_iald 0 dX12_alike_56 (by assumption) rfl (by omega) ?_
    try rw [hnK]
    refine wa_callVf (ci := 12) dX12_alike_57 KX12_classesOf LX12_126 ⟨_, _, rfl, by decide⟩ o168 (k4) (by decide) rfl rfl (Nat.le_of_ble_eq_true rfl) rfl rfl ?_
    refine wa_isub dX12_alike_60 ?_
    refine wa_ireturn dX12_alike_61 rfl ?_
    exact ⟨rfl, K, rfl, h.fx hv m1 m2, m2.cf⟩
  have r1 : ∀ J : Nat → Nat → Int, MT J (jnX A.1.1 t u) → MFx I J → tmW kX12_alike 4 0 0 45 [some (tR 168), some (tI t), some (tI u), some (tI (nCls A.1.1.1 A.1.1.2.2.2.2.2 : Nat))] [] (S, J, L) (MPost S I L (tI ((nCls A.1.1.1 A.1.1.2.2.2.2.2 : Int) - (nCls A.1.1.1 (clX (jnX A.1.1 t u)).2.2.2.2.2 : Int))) (aNow A (clX (jnX A.1.1 t u), A.1.2))) := by
    intro J j1 j2
    have k3 := c_mcloses (I := J) (L := L) hL j1 (jnX_ok hv.1.1 ht hu)
    refine wa_aload_n dX12_alike_45 rfl ?_
    refine wa_callV (ci := 12) dX12_alike_46 KX12_closes LX12_123 ⟨_, _, rfl, by decide⟩ o168 (k3) (by decide) rfl (Nat.le_of_ble_eq_true rfl) rfl rfl (fun r h' hq => ?_)
    obtain ⟨rfl, K, rfl, m1, m2⟩ := hq
    exact r2 K m1 (j2.trans' m2)
  refine wa_aload_n dX12_alike_27 rfl ?_
  refine wa_aload_n dX12_alike_28 rfl ?_
  refine wt_getR dX12_alike_29 FX12_7 (by assumption) (by assumption) ?_
  refine wa_iconst dX12_alike_32 ?_
  refine wt_iald 0 dX12_alike_33 (by assumption) rfl (by omega) ?_
  try rw [hn]
  refine wa_callVf (ci := 12) dX12_alike_34 KX12_classesOf LX12_126 ⟨_, _, rfl, by decide⟩ o168 (k1) (by decide) rfl rfl (Nat.le_of_ble_eq_true rfl) rfl rfl ?_
  refine wa_istore_n dX12_alike_37 (by decide) ?_
  refine wa_aload_n dX12_alike_38 rfl ?_
  refine wa_iload_n dX12_alike_39 rfl ?_
  refine wa_iload_n dX12_alike_40 rfl ?_
  refine wa_callV (ci := 12) dX12_alike_41 KX12_joins LX12_103 ⟨_, _, rfl, by decide⟩ o168 (k2) (by decide) rfl (Nat.le_of_ble_eq_true rfl) rfl rfl (fun r h' hq => ?_)
  obtain ⟨rfl, J, rfl, j1, j2⟩ := hq
  refine wa_pop dX12_alike_44 rfl ?_
  exact r1 J j1 j2
set_option maxRecDepth 20000 in
theorem c_malike {m : Nat} {A : AS} (hL : LX S) (ha : AOK m A) (hm : m ≤ 1000) (h : MR I A) (t u : Int) (ht : inR t) (hu : inR u) : tmC yX12_alike kX12_alike 4 0 0 [tR 168, tI t, tI u] (S, I, L) (MPost S I L (tI (spAlike A t u).1) (spAlike A t u).2) := by
  refine tmC.mk (lv := [some (tR 168), some (tI t), some (tI u), none]) 1 ⟨rfl, by decide +kernel, by decide⟩ rfl rfl ?_
  have o168 := oX168 hL
  have r168_0 := rX168_0 hL
  have r168_1 := rX168_1 hL
  have r168_3 := rX168_3 hL
  have r168_4 := rX168_4 hL
  have r168_5 := rX168_5 hL
  have r168_6 := rX168_6 hL
  have r168_7 := rX168_7 hL
  have r168_8 := rX168_8 hL
  have r168_11 := rX168_11 hL
  have r168_13 := rX168_13 hL
  have r168_17 := rX168_17 hL
  have r168_18 := rX168_18 hL
  have r168_19 := rX168_19 hL
  have r168_21 := rX168_21 hL
  have r168_22 := rX168_22 hL
  have r168_23 := rX168_23 hL
  have r168_24 := rX168_24 hL
  have r168_25 := rX168_25 hL
  have r168_26 := rX168_26 hL
  have r168_27 := rX168_27 hL
  have r168_28 := rX168_28 hL
  have r168_29 := rX168_29 hL
  have r168_30 := rX168_30 hL
  have hrf := c_mrf0 (L := L) hL ha hm h
  have h50 := ha.1.1.1.1
  have k1 := c_misTerm (I := I) (L := L) hL h.mt.1 h50 t ht
  have k2 := c_misTerm (I := I) (L := L) hL h.mt.1 h50 u hu
  have hk := c_mkeeps (L := L) hL ha h
  by_cases c1 : isT A t
  · rw [if_pos c1] at k1
    by_cases c2 : isT A u
    · rw [if_pos c2] at k2
      obtain ⟨t', rfl⟩ : ∃ t' : Nat, t = (t' : Int) := ⟨t.toNat, by have := c1.1; omega⟩
      obtain ⟨u', rfl⟩ : ∃ u' : Nat, u = (u' : Int) := ⟨u.toNat, by have := c2.1; omega⟩
      unfold spAlike
      rw [if_pos ⟨c1, c2⟩]
      simp only [Int.toNat_natCast]
      refine wa_aload_n dX12_alike_0 rfl ?_
      refine wa_iload_n dX12_alike_1 rfl ?_
      refine wa_callVf (ci := 12) dX12_alike_2 KX12_isTerm LX12_109 ⟨_, _, rfl, by decide⟩ o168 (k1) (by decide) rfl rfl (Nat.le_of_ble_eq_true rfl) rfl rfl ?_
      refine wa_if_eq 16 dX12_alike_5 (by decide) (by exact ⟨by omega, by omega⟩) (fun c_5 => ?_) (fun c_5 => ?_)
      · omega
      · refine wa_aload_n dX12_alike_8 rfl ?_
        refine wa_iload_n dX12_alike_9 rfl ?_
        refine wa_callVf (ci := 12) dX12_alike_10 KX12_isTerm LX12_109 ⟨_, _, rfl, by decide⟩ o168 (k2) (by decide) rfl rfl (Nat.le_of_ble_eq_true rfl) rfl rfl ?_
        refine wa_if_ne 23 dX12_alike_13 (by decide) (by exact ⟨by omega, by omega⟩) (fun c_13 => ?_) (fun c_13 => ?_)
        · refine wa_aload_n dX12_alike_23 rfl ?_
          refine wa_callV (ci := 12) dX12_alike_24 KX12_keeps LX12_116 ⟨_, _, rfl, by decide⟩ o168 (hk) (by decide) rfl (Nat.le_of_ble_eq_true rfl) rfl rfl (fun r h' hq => ?_)
          obtain ⟨rfl, J, rfl, j1, j2, j3⟩ := hq
          refine (malike_b hL (A := aKeep A) ha.1 j1 (show t' < A.1.1.1 by have := c1.2; omega) (show u' < A.1.1.1 by have := c2.2; omega)).wk (fun r h'' hr => ?_)
          obtain ⟨rfl, K, rfl, r1, r2⟩ := hr
          exact ⟨rfl, K, rfl, r1, j2.trans' r2⟩
        · omega
    · rw [if_neg c2] at k2
      have e : spAlike A t u = (-2, aRf A 0) := by unfold spAlike; rw [if_neg (fun z => c2 z.2)]
      rw [e]
      refine wa_aload_n dX12_alike_0 rfl ?_
      refine wa_iload_n dX12_alike_1 rfl ?_
      refine wa_callVf (ci := 12) dX12_alike_2 KX12_isTerm LX12_109 ⟨_, _, rfl, by decide⟩ o168 (k1) (by decide) rfl rfl (Nat.le_of_ble_eq_true rfl) rfl rfl ?_
      refine wa_if_eq 16 dX12_alike_5 (by decide) (by exact ⟨by omega, by omega⟩) (fun c_5 => ?_) (fun c_5 => ?_)
      · omega
      · refine wa_aload_n dX12_alike_8 rfl ?_
        refine wa_iload_n dX12_alike_9 rfl ?_
        refine wa_callVf (ci := 12) dX12_alike_10 KX12_isTerm LX12_109 ⟨_, _, rfl, by decide⟩ o168 (k2) (by decide) rfl rfl (Nat.le_of_ble_eq_true rfl) rfl rfl ?_
        refine wa_if_ne 23 dX12_alike_13 (by decide) (by exact ⟨by omega, by omega⟩) (fun c_13 => ?_) (fun c_13 => ?_)
        · omega
        · refine wa_aload_n dX12_alike_16 rfl ?_
          refine wa_bipush dX12_alike_17 rfl ?_
          refine wa_callV (ci := 12) dX12_alike_19 KX12_refuses LX12_113 ⟨_, _, rfl, by decide⟩ o168 (hrf) (by decide) rfl (Nat.le_of_ble_eq_true rfl) rfl rfl (fun r h' hq => ?_)
          obtain ⟨rfl, hq⟩ := hq
          refine wa_ireturn dX12_alike_22 rfl ?_
          exact ⟨rfl, hq⟩
  · rw [if_neg c1] at k1
    have e : spAlike A t u = (-2, aRf A 0) := by unfold spAlike; rw [if_neg (fun z => c1 z.1)]
    rw [e]
    refine wa_aload_n dX12_alike_0 rfl ?_
    refine wa_iload_n dX12_alike_1 rfl ?_
    refine wa_callVf (ci := 12) dX12_alike_2 KX12_isTerm LX12_109 ⟨_, _, rfl, by decide⟩ o168 (k1) (by decide) rfl rfl (Nat.le_of_ble_eq_true rfl) rfl rfl ?_
    refine wa_if_eq 16 dX12_alike_5 (by decide) (by exact ⟨by omega, by omega⟩) (fun c_5 => ?_) (fun c_5 => ?_)
    · refine wa_aload_n dX12_alike_16 rfl ?_
      refine wa_bipush dX12_alike_17 rfl ?_
      refine wa_callV (ci := 12) dX12_alike_19 KX12_refuses LX12_113 ⟨_, _, rfl, by decide⟩ o168 (hrf) (by decide) rfl (Nat.le_of_ble_eq_true rfl) rfl rfl (fun r h' hq => ?_)
      obtain ⟨rfl, hq⟩ := hq
      refine wa_ireturn dX12_alike_22 rfl ?_
      exact ⟨rfl, hq⟩
    · omega
set_option maxRecDepth 20000 in
theorem c_manew {m : Nat} {A : AS} (hL : LX S) (ha : AOK m A) (h : MR I A) : tmC yX12_anew kX12_anew 2 0 0 [tR 168] (S, I, L) (MPost S I L (tI (spAnew A).1) (spAnew A).2) := by
  refine tmC.mk (lv := [some (tR 168), none]) 1 ⟨rfl, by decide +kernel, by decide⟩ rfl rfl ?_
  have o168 := oX168 hL
  have r168_0 := rX168_0 hL
  have r168_1 := rX168_1 hL
  have r168_3 := rX168_3 hL
  have r168_4 := rX168_4 hL
  have r168_5 := rX168_5 hL
  have r168_6 := rX168_6 hL
  have r168_7 := rX168_7 hL
  have r168_8 := rX168_8 hL
  have r168_11 := rX168_11 hL
  have r168_13 := rX168_13 hL
  have r168_17 := rX168_17 hL
  have r168_18 := rX168_18 hL
  have r168_19 := rX168_19 hL
  have r168_21 := rX168_21 hL
  have r168_22 := rX168_22 hL
  have r168_23 := rX168_23 hL
  have r168_24 := rX168_24 hL
  have r168_25 := rX168_25 hL
  have r168_26 := rX168_26 hL
  have r168_27 := rX168_27 hL
  have r168_28 := rX168_28 hL
  have r168_29 := rX168_29 hL
  have r168_30 := rX168_30 hL
  have o169 := oX169 hL
  have hk := c_mkeeps (L := L) hL ha h
  have rest : ∀ J : Nat → Nat → Int, MR J (aKeep A) → CFr I J → tmW kX12_anew 2 0 0 4 [some (tR 168), none] [] (S, J, L) (MPost S I L (tI (spAnew A).1) (spAnew A).2) := by
    intro J j1 j2
    have hn : J 169 0 = (A.1.1.1 : Int) := j1.mt.1
    have h50 := ha.1.1.1.1
    have fin : MR (va_up J 169 (va_up (va_up (J 169) 0 0) 1 0)) (aNow (aKeep A) (clX emX, [])) := j1.now (by
      refine ⟨⟨by rw [vup_s, vup_n (by decide), vup_s]; rfl, fun t ht => by have : t < 0 := ht; omega⟩, by rw [vup_s, vup_s]; rfl, fun r w hw => by simp at hw⟩) (fun a b => vup_n (by omega)) (by rw [vup_n (by decide)]) (by rw [vup_n (by decide)])
    refine wa_aload_n dX12_anew_4 rfl ?_
    refine wt_getR dX12_anew_5 FX12_7 (by assumption) (by assumption) ?_
    refine wa_iconst dX12_anew_8 ?_
    refine wt_iald 0 dX12_anew_9 (by assumption) rfl (by omega) ?_
    try rw [hn]
    refine wa_istore_n dX12_anew_10 (by decide) ?_
    refine wa_aload_n dX12_anew_11 rfl ?_
    refine wt_getR dX12_anew_12 FX12_7 (by assumption) (by assumption) ?_
    refine wa_iconst dX12_anew_15 ?_
    refine wa_iconst dX12_anew_16 ?_
    refine wt_iast 0 dX12_anew_17 (by assumption) rfl (by omega) (by exact ⟨by omega, by omega⟩) ?_
    refine wa_aload_n dX12_anew_18 rfl ?_
    refine wt_getR dX12_anew_19 FX12_7 (by assumption) (by assumption) ?_
    refine wa_iconst dX12_anew_22 ?_
    refine wa_iconst dX12_anew_23 ?_
    refine wt_iast 1 dX12_anew_24 (by assumption) rfl (by omega) (by exact ⟨by omega, by omega⟩) ?_
    rw [vup_s, vup_vup]
    refine wa_iload_n dX12_anew_25 rfl ?_
    refine wa_ireturn dX12_anew_26 rfl ?_
    exact ⟨rfl, _, rfl, fin, j2.trans' (fun a b => vup_n (by omega))⟩
  refine wa_aload_n dX12_anew_0 rfl ?_
  refine wa_callV (ci := 12) dX12_anew_1 KX12_keeps LX12_116 ⟨_, _, rfl, by decide⟩ o168 (hk) (by decide) rfl (Nat.le_of_ble_eq_true rfl) rfl rfl (fun r h' hq => ?_)
  obtain ⟨rfl, J, rfl, j1, j2, j3⟩ := hq
  exact rest J j1 j2
end S98
