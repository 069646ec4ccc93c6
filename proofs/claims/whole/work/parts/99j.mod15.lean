/-! ===== 99j: the reference: rule ===== -/
section S99j
variable {S : tmS} {I : Nat → Nat → Int} {L : Nat → Nat → Int64}
set_option maxRecDepth 20000 in
theorem mrule_loop (hL : LX S) {r : Nat} (hr : r < 6) {T : List E6} (hT : FM I r T) {w : Int} (hw : w = 3 ∨ w = 4) {lim : Int} (hlim : I 172 1 = lim) : ∀ (j k c : Nat), k + j = T.length → c ≤ k → tmW kX12_rule 5 0 0 83 [some (tR 168), some (tI r), some (tI w), some (tI c), some (tI k)] [] (S, I, L) (tmF (some (tI ((c + (T.drop k).countP (fun e => decide (w = 3) || notLate lim e) : Nat) : Int))) (S, I, L)) := by
  intro j
  have o168 := oX168 hL
  have r168_0 := rX168_0 hL
  have r168_1 := rX168_1 hL
  have r168_3 := rX168_3 hL
  have r168_4 := rX168_4 hL
  have r168_5 := rX168_5 hL
  have r168_6 := rX168_6 hL
  have r168_7 := rX168_7 hL
  have r168_8 := rX168_8 hL
  have r168_11 := rX168_11 hL
  have r168_13 := rX168_13 hL
  have r168_17 := rX168_17 hL
  have r168_18 := rX168_18 hL
  have r168_19 := rX168_19 hL
  have r168_21 := rX168_21 hL
  have r168_22 := rX168_22 hL
  have r168_23 := rX168_23 hL
  have r168_24 := rX168_24 hL
  have r168_25 := rX168_25 hL
  have r168_26 := rX168_26 hL
  have r168_27 := rX168_27 hL
  have r168_28 := rX168_28 hL
  have r168_29 := rX168_29 hL
  have r168_30 := rX168_30 hL
  have o172 := oX172 hL
  have o186 := oX186 hL
  have o187 := oX187 hL
  refine fun k c hk hc => wt_ir (fun hI => ?_)
  revert k c
  obtain ⟨t1, t2, t3⟩ := hT
  induction j with
  | zero =>
    intro k c hk hc
    rw [List.drop_of_length_le (by omega)]
    refine wa_iload dX12_rule_83 rfl ?_
    refine wa_aload_n dX12_rule_85 rfl ?_
    refine wt_getR dX12_rule_86 FX12_64 (by assumption) (by assumption) ?_
    refine wa_iload_n dX12_rule_89 rfl ?_
    refine wt_iald r dX12_rule_90 (by assumption) rfl (by omega) ?_
    try first | rw [t1] | skip
    refine wa_icmp_ge 139 dX12_rule_91 (by decide) (by exact ⟨by omega, by omega⟩) (by exact ⟨by omega, by omega⟩) (fun c_91 => ?_) (fun c_91 => ?_)
    · refine wa_iload_n dX12_rule_139 rfl ?_
      refine wa_ireturn dX12_rule_140 rfl ?_
      exact ⟨rfl, rfl⟩
    · omega
  | succ j ih =>
    intro k c hk hc
    have ck : k < T.length := by omega
    have ex := List.getElem?_eq_getElem ck
    have t4 := (t3 k _ ex).2.2.2.2
    have rg := hI 186 (1000 * r + 5 * k + 4)
    have rl := hI 172 1
    rw [t4] at rg
    rw [hlim] at rl
    rw [List.drop_eq_getElem_cons ck]
    by_cases p : (decide (w = 3) || notLate lim T[k]) = true
    · rw [List.countP_cons_of_pos (p := fun e => decide (w = 3) || notLate lim e) p]
      have nx := ih (k + 1) (c + 1) (by omega) (by omega)
      rw [show c + ((T.drop (k + 1)).countP (fun e => decide (w = 3) || notLate lim e) + 1) = c + 1 + (T.drop (k + 1)).countP (fun e => decide (w = 3) || notLate lim e) by omega]
      rcases hw with rfl | rfl
      · refine wa_iload dX12_rule_83 rfl ?_
        refine wa_aload_n dX12_rule_85 rfl ?_
        refine wt_getR dX12_rule_86 FX12_64 (by assumption) (by assumption) ?_
        refine wa_iload_n dX12_rule_89 rfl ?_
        refine wt_iald r dX12_rule_90 (by assumption) rfl (by omega) ?_
        try first | rw [t1] | skip
        refine wa_icmp_ge 139 dX12_rule_91 (by decide) (by exact ⟨by omega, by omega⟩) (by exact ⟨by omega, by omega⟩) (fun c_91 => ?_) (fun c_91 => ?_)
        · omega
        · refine wa_iload_n dX12_rule_94 rfl ?_
          refine wa_iload_n dX12_rule_95 rfl ?_
          refine wa_iconst dX12_rule_96 ?_
          refine wa_icmp_eq 126 dX12_rule_97 (by decide) (by exact ⟨by omega, by omega⟩) (by exact ⟨by omega, by omega⟩) (fun c_97 => ?_) (fun c_97 => ?_)
          · refine wa_iconst dX12_rule_126 ?_
            refine wa_goto 131 dX12_rule_127 (by decide) ?_
            refine wa_iadd dX12_rule_131 ?_
            refine wa_istore_n dX12_rule_132 (by decide) ?_
            refine wa_iinc dX12_rule_133 rfl (by decide) ?_
            refine wa_goto 83 dX12_rule_136 (by decide) ?_
            exact nx
          · omega
      · have p2 : T[k].2.2.2.2.2 ≤ lim := by
          simp only [notLate, Bool.or_eq_true, decide_eq_true_eq] at p
          rcases p with q | q
          · omega
          · exact q
        refine wa_iload dX12_rule_83 rfl ?_
        refine wa_aload_n dX12_rule_85 rfl ?_
        refine wt_getR dX12_rule_86 FX12_64 (by assumption) (by assumption) ?_
        refine wa_iload_n dX12_rule_89 rfl ?_
        refine wt_iald r dX12_rule_90 (by assumption) rfl (by omega) ?_
        try first | rw [t1] | rw [t4] | rw [hlim] | skip
        refine wa_icmp_ge 139 dX12_rule_91 (by decide) (by first | exact rg | exact rl | exact ⟨by omega, by omega⟩) (by first | exact rg | exact rl | exact ⟨by omega, by omega⟩) (fun c_91 => ?_) (fun c_91 => ?_)
        · omega
        · refine wa_iload_n dX12_rule_94 rfl ?_
          refine wa_iload_n dX12_rule_95 rfl ?_
          refine wa_iconst dX12_rule_96 ?_
          refine wa_icmp_eq 126 dX12_rule_97 (by decide) (by first | exact rg | exact rl | exact ⟨by omega, by omega⟩) (by first | exact rg | exact rl | exact ⟨by omega, by omega⟩) (fun c_97 => ?_) (fun c_97 => ?_)
          · omega
          · refine wa_aload_n dX12_rule_100 rfl ?_
            refine wt_getR dX12_rule_101 FX12_61 (by assumption) (by assumption) ?_
            refine wa_sipush dX12_rule_104 rfl ?_
            refine wa_iload_n dX12_rule_107 rfl ?_
            refine wa_imul dX12_rule_108 ?_
            refine wa_iconst dX12_rule_109 ?_
            refine wa_iload dX12_rule_110 rfl ?_
            refine wa_imul dX12_rule_112 ?_
            refine wa_iadd dX12_rule_113 ?_
            refine wa_iconst dX12_rule_114 ?_
            refine wa_iadd dX12_rule_115 ?_
            refine wt_iald (1000 * r + 5 * k + 4) dX12_rule_116 (by assumption) (by omega) (by omega) ?_
            try first | rw [t1] | rw [t4] | rw [hlim] | skip
            refine wa_aload_n dX12_rule_117 rfl ?_
            refine wt_getR dX12_rule_118 FX12_19 (by assumption) (by assumption) ?_
            refine wa_iconst dX12_rule_121 ?_
            refine wt_iald 1 dX12_rule_122 (by assumption) rfl (by omega) ?_
            try first | rw [t1] | rw [t4] | rw [hlim] | skip
            refine wa_icmp_gt 130 dX12_rule_123 (by decide) (by first | exact rg | exact rl | exact ⟨by omega, by omega⟩) (by first | exact rg | exact rl | exact ⟨by omega, by omega⟩) (fun c_123 => ?_) (fun c_123 => ?_)
            · omega
            · refine wa_iconst dX12_rule_126 ?_
              refine wa_goto 131 dX12_rule_127 (by decide) ?_
              refine wa_iadd dX12_rule_131 ?_
              refine wa_istore_n dX12_rule_132 (by decide) ?_
              refine wa_iinc dX12_rule_133 rfl (by decide) ?_
              refine wa_goto 83 dX12_rule_136 (by decide) ?_
              exact nx
    · rw [List.countP_cons_of_neg (p := fun e => decide (w = 3) || notLate lim e) p]
      have nx := ih (k + 1) c (by omega) (by omega)
      rcases hw with rfl | rfl
      · simp at p
      · have p2 : ¬ T[k].2.2.2.2.2 ≤ lim := fun q => p (by simp only [notLate, Bool.or_eq_true, decide_eq_true_eq]; exact Or.inr q)
        refine wa_iload dX12_rule_83 rfl ?_
        refine wa_aload_n dX12_rule_85 rfl ?_
        refine wt_getR dX12_rule_86 FX12_64 (by assumption) (by assumption) ?_
        refine wa_iload_n dX12_rule_89 rfl ?_
        refine wt_iald r dX12_rule_90 (by assumption) rfl (by omega) ?_
        try first | rw [t1] | rw [t4] | rw [hlim] | skip
        refine wa_icmp_ge 139 dX12_rule_91 (by decide) (by first | exact rg | exact rl | exact ⟨by omega, by omega⟩) (by first | exact rg | exact rl | exact ⟨by omega, by omega⟩) (fun c_91 => ?_) (fun c_91 => ?_)
        · omega
        · refine wa_iload_n dX12_rule_94 rfl ?_
          refine wa_iload_n dX12_rule_95 rfl ?_
          refine wa_iconst dX12_rule_96 ?_
          refine wa_icmp_eq 126 dX12_rule_97 (by decide) (by first | exact rg | exact rl | exact ⟨by omega, by omega⟩) (by first | exact rg | exact rl | exact ⟨by omega, by omega⟩) (fun c_97 => ?_) (fun c_97 => ?_)
          · omega
          · refine wa_aload_n dX12_rule_100 rfl ?_
            refine wt_getR dX12_rule_101 FX12_61 (by assumption) (by assumption) ?_
            refine wa_sipush dX12_rule_104 rfl ?_
            refine wa_iload_n dX12_rule_107 rfl ?_
            refine wa_imul dX12_rule_108 ?_
            refine wa_iconst dX12_rule_109 ?_
            refine wa_iload dX12_rule_110 rfl ?_
            refine wa_imul dX12_rule_112 ?_
            refine wa_iadd dX12_rule_113 ?_
            refine wa_iconst dX12_rule_114 ?_
            refine wa_iadd dX12_rule_115 ?_
            refine wt_iald (1000 * r + 5 * k + 4) dX12_rule_116 (by assumption) (by omega) (by omega) ?_
            try first | rw [t1] | rw [t4] | rw [hlim] | skip
            refine wa_aload_n dX12_rule_117 rfl ?_
            refine wt_getR dX12_rule_118 FX12_19 (by assumption) (by assumption) ?_
            refine wa_iconst dX12_rule_121 ?_
            refine wt_iald 1 dX12_rule_122 (by assumption) rfl (by omega) ?_
            try first | rw [t1] | rw [t4] | rw [hlim] | skip
            refine wa_icmp_gt 130 dX12_rule_123 (by decide) (by first | exact rg | exact rl | exact ⟨by omega, by omega⟩) (by first | exact rg | exact rl | exact ⟨by omega, by omega⟩) (fun c_123 => ?_) (fun c_123 => ?_)
            · refine wa_iconst dX12_rule_130 ?_
              refine wa_iadd dX12_rule_131 ?_
              refine wa_istore_n dX12_rule_132 (by decide) ?_
              refine wa_iinc dX12_rule_133 rfl (by decide) ?_
              refine wa_goto 83 dX12_rule_136 (by decide) ?_
              exact nx
            · omega
set_option maxRecDepth 20000 in
theorem c_mrule {m : Nat} {A : AS} (hL : LX S) (ha : AOK m A) (hm : m ≤ 1000) (h : MR I A) (ht : RlT A.1.2) (t w : Int) (ht2 : inR t) (hw2 : inR w) : tmC yX12_rule kX12_rule 5 0 0 [tR 168, tI t, tI w] (S, I, L) (MPost S I L (tI (spRule A t w).1) (spRule A t w).2) := by
  refine tmC.mk (lv := [some (tR 168), some (tI t), some (tI w), none, none]) 2 ⟨rfl, by decide +kernel, by decide⟩ rfl rfl ?_
  have o168 := oX168 hL
  have r168_0 := rX168_0 hL
  have r168_1 := rX168_1 hL
  have r168_3 := rX168_3 hL
  have r168_4 := rX168_4 hL
  have r168_5 := rX168_5 hL
  have r168_6 := rX168_6 hL
  have r168_7 := rX168_7 hL
  have r168_8 := rX168_8 hL
  have r168_11 := rX168_11 hL
  have r168_13 := rX168_13 hL
  have r168_17 := rX168_17 hL
  have r168_18 := rX168_18 hL
  have r168_19 := rX168_19 hL
  have r168_21 := rX168_21 hL
  have r168_22 := rX168_22 hL
  have r168_23 := rX168_23 hL
  have r168_24 := rX168_24 hL
  have r168_25 := rX168_25 hL
  have r168_26 := rX168_26 hL
  have r168_27 := rX168_27 hL
  have r168_28 := rX168_28 hL
  have r168_29 := rX168_29 hL
  have r168_30 := rX168_30 hL
  have hrf := c_mrf0 (L := L) hL ha hm h
  have h6 := ha.1.2.1
  have k1 := c_misRule (I := I) (L := L) hL h.1.2.1 h6 t ht2
  have k2 := c_min (h := (S, I, L)) w 0 4 hw2 ⟨by decide, by decide⟩ ⟨by decide, by decide⟩
  have kt := c_mtable (L := L) hL ha.1.1 h.1.1
  by_cases c1 : 0 ≤ t ∧ t < A.1.2.length
  · rw [if_pos c1] at k1
    by_cases c3 : 0 ≤ w ∧ w ≤ 4
    · rw [if_pos c3] at k2
      have e : spRule A t w = (ruleX A t.toNat w, A) := by unfold spRule; rw [if_pos ⟨c1, c3⟩]
      rw [e]
      obtain ⟨r, rfl⟩ : ∃ r : Nat, t = (r : Int) := ⟨t.toNat, by omega⟩
      simp only [Int.toNat_natCast]
      have hmw := h.1.2.mw ha.1.2.1 ha.1.2.2 (r := r) (by omega)
      have h9 : ∀ s ∈ rlL A.1.2 r, s ≤ 9 := fun s hs => (hmw.2.2.2.2.2.2.1 s hs).2
      by_cases w0 : w = 0
      · subst w0
        have kl := c_mletters (L := L) hL hmw
        have hlet : letW (rlL A.1.2 r) < 8 := letF_lt _ 0 h9 (by decide)
        have er : ruleX A r 0 = bcN (letW (rlL A.1.2 r)) := by unfold ruleX; rw [if_pos rfl]
        rw [er]
        generalize letW (rlL A.1.2 r) = M at *
        have es := lt_sum M hlet
        refine wa_aload_n dX12_rule_0 rfl ?_
        refine wa_iload_n dX12_rule_1 rfl ?_
        refine wa_callVf (ci := 12) dX12_rule_2 KX12_isRule LX12_154 ⟨_, _, rfl, by decide⟩ o168 (k1) (by decide) rfl rfl (Nat.le_of_ble_eq_true rfl) rfl rfl ?_
        refine wa_if_eq 17 dX12_rule_5 (by decide) (by exact ⟨by omega, by omega⟩) (fun c_5 => ?_) (fun c_5 => ?_)
        · omega
        · refine wa_iload_n dX12_rule_8 rfl ?_
          refine wa_iconst dX12_rule_9 ?_
          refine wa_iconst dX12_rule_10 ?_
          refine wa_callSf dX12_rule_11 KX12_in LX12_79 (k2) (by decide) rfl rfl (Nat.le_of_ble_eq_true rfl) rfl rfl ?_
          refine wa_if_ne 24 dX12_rule_14 (by decide) (by exact ⟨by omega, by omega⟩) (fun c_14 => ?_) (fun c_14 => ?_)
          · refine wa_iload_n dX12_rule_24 rfl ?_
            refine wa_if_ne 48 dX12_rule_25 (by decide) (by exact ⟨by omega, by omega⟩) (fun c_25 => ?_) (fun c_25 => ?_)
            · omega
            · refine wa_aload_n dX12_rule_28 rfl ?_
              refine wa_iload_n dX12_rule_29 rfl ?_
              refine wa_callVf (ci := 12) dX12_rule_30 KX12_lettersOf LX12_144 ⟨_, _, rfl, by decide⟩ o168 (kl) (by decide) rfl rfl (Nat.le_of_ble_eq_true rfl) rfl rfl ?_
              refine wa_istore_n dX12_rule_33 (by decide) ?_
              refine wa_iload_n dX12_rule_34 rfl ?_
              refine wa_iconst dX12_rule_35 ?_
              refine wa_iand dX12_rule_36 (r := ((M % 2 : Nat) : Int)) (lt_a M hlet) ?_
              refine wa_iload_n dX12_rule_37 rfl ?_
              refine wa_iconst dX12_rule_38 ?_
              refine wa_ishr dX12_rule_39 (r := ((M / 2 : Nat) : Int)) (lt_s1 M hlet) ?_
              refine wa_iconst dX12_rule_40 ?_
              refine wa_iand dX12_rule_41 (r := ((M / 2 % 2 : Nat) : Int)) (lt_a1 M hlet) ?_
              refine wa_iadd dX12_rule_42 ?_
              refine wa_iload_n dX12_rule_43 rfl ?_
              refine wa_iconst dX12_rule_44 ?_
              refine wa_ishr dX12_rule_45 (r := ((M / 4 : Nat) : Int)) (lt_s2 M hlet) ?_
              refine wa_iadd dX12_rule_46 ?_
              refine wa_ireturn dX12_rule_47 rfl ?_
              exact h.stay es rfl
          · omega
      · by_cases w3 : w < 3
        · by_cases w1 : w = 1
          · subst w1
            have er : ruleX A r 1 = (((rlL A.1.2 r).countP (fun s => decide (s < 7)) : Nat) : Int) := by unfold ruleX; rw [if_neg (by decide), if_pos rfl]
            rw [er]
            have ks := c_msigns (L := L) hL (Or.inr rfl) (c_msizeL hL hmw) (fun k hk => c_msignL hL hmw hk) hmw.2.2.2.2.2.2.1 (by have := hmw.2.1; omega)
            refine wa_aload_n dX12_rule_0 rfl ?_
            refine wa_iload_n dX12_rule_1 rfl ?_
            refine wa_callVf (ci := 12) dX12_rule_2 KX12_isRule LX12_154 ⟨_, _, rfl, by decide⟩ o168 (k1) (by decide) rfl rfl (Nat.le_of_ble_eq_true rfl) rfl rfl ?_
            refine wa_if_eq 17 dX12_rule_5 (by decide) (by exact ⟨by omega, by omega⟩) (fun c_5 => ?_) (fun c_5 => ?_)
            · omega
            · refine wa_iload_n dX12_rule_8 rfl ?_
              refine wa_iconst dX12_rule_9 ?_
              refine wa_iconst dX12_rule_10 ?_
              refine wa_callSf dX12_rule_11 KX12_in LX12_79 (k2) (by decide) rfl rfl (Nat.le_of_ble_eq_true rfl) rfl rfl ?_
              refine wa_if_ne 24 dX12_rule_14 (by decide) (by exact ⟨by omega, by omega⟩) (fun c_14 => ?_) (fun c_14 => ?_)
              · refine wa_iload_n dX12_rule_24 rfl ?_
                refine wa_if_ne 48 dX12_rule_25 (by decide) (by exact ⟨by omega, by omega⟩) (fun c_25 => ?_) (fun c_25 => ?_)
                · refine wa_iload_n dX12_rule_48 rfl ?_
                  refine wa_iconst dX12_rule_49 ?_
                  refine wa_icmp_ge 69 dX12_rule_50 (by decide) (by exact ⟨by omega, by omega⟩) (by exact ⟨by omega, by omega⟩) (fun c_50 => ?_) (fun c_50 => ?_)
                  · omega
                  · refine wa_aload_n dX12_rule_53 rfl ?_
                    refine wa_iload_n dX12_rule_54 rfl ?_
                    refine wa_iload_n dX12_rule_55 rfl ?_
                    refine wa_iconst dX12_rule_56 ?_
                    refine wa_icmp_ne 64 dX12_rule_57 (by decide) (by exact ⟨by omega, by omega⟩) (by exact ⟨by omega, by omega⟩) (fun c_57 => ?_) (fun c_57 => ?_)
                    · omega
                    · refine wa_iconst dX12_rule_60 ?_
                      refine wa_goto 65 dX12_rule_61 (by decide) ?_
                      refine wa_callVf (ci := 12) dX12_rule_65 KX12_signsOf LX12_157 ⟨_, _, rfl, by decide⟩ o168 (ks) (by decide) rfl rfl (Nat.le_of_ble_eq_true rfl) rfl rfl ?_
                      refine wa_ireturn dX12_rule_68 rfl ?_
                      exact h.stay rfl rfl
                · omega
              · omega
          · obtain rfl : w = 2 := by omega
            have er : ruleX A r 2 = (((rlR A.1.2 r).countP (fun s => decide (s < 7)) : Nat) : Int) := by unfold ruleX; rw [if_neg (by decide), if_neg (by decide), if_pos rfl]
            rw [er]
            have ks := c_msigns (L := L) hL (Or.inl rfl) (c_msizeR hL hmw) (fun k hk => c_msignR hL hmw hk) hmw.2.2.2.2.2.2.2 (by have := hmw.2.1; omega)
            refine wa_aload_n dX12_rule_0 rfl ?_
            refine wa_iload_n dX12_rule_1 rfl ?_
            refine wa_callVf (ci := 12) dX12_rule_2 KX12_isRule LX12_154 ⟨_, _, rfl, by decide⟩ o168 (k1) (by decide) rfl rfl (Nat.le_of_ble_eq_true rfl) rfl rfl ?_
            refine wa_if_eq 17 dX12_rule_5 (by decide) (by exact ⟨by omega, by omega⟩) (fun c_5 => ?_) (fun c_5 => ?_)
            · omega
            · refine wa_iload_n dX12_rule_8 rfl ?_
              refine wa_iconst dX12_rule_9 ?_
              refine wa_iconst dX12_rule_10 ?_
              refine wa_callSf dX12_rule_11 KX12_in LX12_79 (k2) (by decide) rfl rfl (Nat.le_of_ble_eq_true rfl) rfl rfl ?_
              refine wa_if_ne 24 dX12_rule_14 (by decide) (by exact ⟨by omega, by omega⟩) (fun c_14 => ?_) (fun c_14 => ?_)
              · refine wa_iload_n dX12_rule_24 rfl ?_
                refine wa_if_ne 48 dX12_rule_25 (by decide) (by exact ⟨by omega, by omega⟩) (fun c_25 => ?_) (fun c_25 => ?_)
                · refine wa_iload_n dX12_rule_48 rfl ?_
                  refine wa_iconst dX12_rule_49 ?_
                  refine wa_icmp_ge 69 dX12_rule_50 (by decide) (by exact ⟨by omega, by omega⟩) (by exact ⟨by omega, by omega⟩) (fun c_50 => ?_) (fun c_50 => ?_)
                  · omega
                  · refine wa_aload_n dX12_rule_53 rfl ?_
                    refine wa_iload_n dX12_rule_54 rfl ?_
                    refine wa_iload_n dX12_rule_55 rfl ?_
                    refine wa_iconst dX12_rule_56 ?_
                    refine wa_icmp_ne 64 dX12_rule_57 (by decide) (by exact ⟨by omega, by omega⟩) (by exact ⟨by omega, by omega⟩) (fun c_57 => ?_) (fun c_57 => ?_)
                    · refine wa_iconst dX12_rule_64 ?_
                      refine wa_callVf (ci := 12) dX12_rule_65 KX12_signsOf LX12_157 ⟨_, _, rfl, by decide⟩ o168 (ks) (by decide) rfl rfl (Nat.le_of_ble_eq_true rfl) rfl rfl ?_
                      refine wa_ireturn dX12_rule_68 rfl ?_
                      exact h.stay rfl rfl
                    · omega
                · omega
              · omega
        · have er : ruleX A r w = (((fndA A r).countP (fun e => decide (w = 3) || notLate A.2.2.1.2 e) : Nat) : Int) := by
            unfold ruleX
            rw [if_neg w0, if_neg (by omega), if_neg (by omega)]
            by_cases y : w = 3
            · rw [if_pos y]
              simp only [y, decide_true, Bool.true_or]
              rw [List.countP_true]
            · rw [if_neg y]
              simp only [y, decide_false, Bool.false_or]
          rw [er]
          have rest : ∀ J K : Nat → Nat → Int, (∀ a, a ≠ 182 → a ≠ 183 → a ≠ 184 → a ≠ 185 → J a = I a) → FS J K r (fndA A r) → tmW kX12_rule 5 0 0 78 [some (tR 168), some (tI r), some (tI w), none, none] [] (S, K, L) (MPost S I L (tI (((fndA A r).countP (fun e => decide (w = 3) || notLate A.2.2.1.2 e) : Nat) : Int)) A) := fun J K f1 hK => by
            have sc := FS.sc f1 hK
            have lp := mrule_loop (I := K) (L := L) hL (by omega) hK.2.2.2 (w := w) (by omega) (lim := A.2.2.1.2) (by rw [sc 172 (by omega)]; exact h.2.2.2.1.2) (fndA A r).length 0 0 (by omega) (by omega)
            rw [List.drop_zero, Nat.zero_add] at lp
            have lp2 := lp.wk (Q2 := MPost S I L (tI (((fndA A r).countP (fun e => decide (w = 3) || notLate A.2.2.1.2 e) : Nat) : Int)) A) (fun q h' hq => by
              obtain ⟨rfl, rfl⟩ := hq
              exact h.scp sc rfl)
            refine wa_iconst dX12_rule_78 ?_
            refine wa_istore_n dX12_rule_79 (by decide) ?_
            refine wa_iconst dX12_rule_80 ?_
            refine wa_istore dX12_rule_81 (by decide) ?_
            exact lp2
          have mid : ∀ J : Nat → Nat → Int, (∀ a, a ≠ 182 → a ≠ 183 → a ≠ 184 → a ≠ 185 → J a = I a) → (∀ K, K < 2604 → plM J K = plT A.1.1 K) → (∀ c, c < A.1.1.1 → A.1.1.2.2.2.2.2 c = (c : Int) → J 185 c = lsX A.1.1 c) → tmW kX12_rule 5 0 0 73 [some (tR 168), some (tI r), some (tI w), none, none] [] (S, J, L) (MPost S I L (tI (((fndA A r).countP (fun e => decide (w = 3) || notLate A.2.2.1.2 e) : Nat) : Int)) A) := fun J f1 f2 f3 => by
            have kf := mlook (L := L) hL ha h ht (r := r) (by omega) f1 f2 f3
            refine wa_aload_n dX12_rule_73 rfl ?_
            refine wa_iload_n dX12_rule_74 rfl ?_
            refine wa_callV (ci := 12) dX12_rule_75 KX12_finds LX12_163 ⟨_, _, rfl, by decide⟩ o168 (kf) (by decide) rfl (Nat.le_of_ble_eq_true rfl) rfl rfl (fun r h' hq => ?_)
            obtain ⟨rfl, K, rfl, hK⟩ := hq
            exact rest J K f1 hK
          refine wa_aload_n dX12_rule_0 rfl ?_
          refine wa_iload_n dX12_rule_1 rfl ?_
          refine wa_callVf (ci := 12) dX12_rule_2 KX12_isRule LX12_154 ⟨_, _, rfl, by decide⟩ o168 (k1) (by decide) rfl rfl (Nat.le_of_ble_eq_true rfl) rfl rfl ?_
          refine wa_if_eq 17 dX12_rule_5 (by decide) (by exact ⟨by omega, by omega⟩) (fun c_5 => ?_) (fun c_5 => ?_)
          · omega
          · refine wa_iload_n dX12_rule_8 rfl ?_
            refine wa_iconst dX12_rule_9 ?_
            refine wa_iconst dX12_rule_10 ?_
            refine wa_callSf dX12_rule_11 KX12_in LX12_79 (k2) (by decide) rfl rfl (Nat.le_of_ble_eq_true rfl) rfl rfl ?_
            refine wa_if_ne 24 dX12_rule_14 (by decide) (by exact ⟨by omega, by omega⟩) (fun c_14 => ?_) (fun c_14 => ?_)
            · refine wa_iload_n dX12_rule_24 rfl ?_
              refine wa_if_ne 48 dX12_rule_25 (by decide) (by exact ⟨by omega, by omega⟩) (fun c_25 => ?_) (fun c_25 => ?_)
              · refine wa_iload_n dX12_rule_48 rfl ?_
                refine wa_iconst dX12_rule_49 ?_
                refine wa_icmp_ge 69 dX12_rule_50 (by decide) (by exact ⟨by omega, by omega⟩) (by exact ⟨by omega, by omega⟩) (fun c_50 => ?_) (fun c_50 => ?_)
                · refine wa_aload_n dX12_rule_69 rfl ?_
                  refine wa_callV (ci := 12) dX12_rule_70 KX12_table LX12_160 ⟨_, _, rfl, by decide⟩ o168 (kt) (by decide) rfl (Nat.le_of_ble_eq_true rfl) rfl rfl (fun r h' hq => ?_)
                  obtain ⟨rfl, J, rfl, f1, f2, f3⟩ := hq
                  exact mid J f1 f2 f3
                · omega
              · omega
            · omega
    · rw [if_neg c3] at k2
      have e : spRule A t w = (-2, aRf A 0) := by unfold spRule; rw [if_neg (fun z => c3 z.2)]
      rw [e]
      refine wa_aload_n dX12_rule_0 rfl ?_
      refine wa_iload_n dX12_rule_1 rfl ?_
      refine wa_callVf (ci := 12) dX12_rule_2 KX12_isRule LX12_154 ⟨_, _, rfl, by decide⟩ o168 (k1) (by decide) rfl rfl (Nat.le_of_ble_eq_true rfl) rfl rfl ?_
      refine wa_if_eq 17 dX12_rule_5 (by decide) (by exact ⟨by omega, by omega⟩) (fun c_5 => ?_) (fun c_5 => ?_)
      · omega
      · refine wa_iload_n dX12_rule_8 rfl ?_
        refine wa_iconst dX12_rule_9 ?_
        refine wa_iconst dX12_rule_10 ?_
        refine wa_callSf dX12_rule_11 KX12_in LX12_79 (k2) (by decide) rfl rfl (Nat.le_of_ble_eq_true rfl) rfl rfl ?_
        refine wa_if_ne 24 dX12_rule_14 (by decide) (by exact ⟨by omega, by omega⟩) (fun c_14 => ?_) (fun c_14 => ?_)
        · omega
        · refine wa_aload_n dX12_rule_17 rfl ?_
          refine wa_bipush dX12_rule_18 rfl ?_
          refine wa_callV (ci := 12) dX12_rule_20 KX12_refuses LX12_113 ⟨_, _, rfl, by decide⟩ o168 (hrf) (by decide) rfl (Nat.le_of_ble_eq_true rfl) rfl rfl (fun r h' hq => ?_)
          obtain ⟨rfl, hq⟩ := hq
          refine wa_ireturn dX12_rule_23 rfl ?_
          exact ⟨rfl, hq⟩
  · rw [if_neg c1] at k1
    have e : spRule A t w = (-2, aRf A 0) := by unfold spRule; rw [if_neg (fun z => c1 z.1)]
    rw [e]
    refine wa_aload_n dX12_rule_0 rfl ?_
    refine wa_iload_n dX12_rule_1 rfl ?_
    refine wa_callVf (ci := 12) dX12_rule_2 KX12_isRule LX12_154 ⟨_, _, rfl, by decide⟩ o168 (k1) (by decide) rfl rfl (Nat.le_of_ble_eq_true rfl) rfl rfl ?_
    refine wa_if_eq 17 dX12_rule_5 (by decide) (by exact ⟨by omega, by omega⟩) (fun c_5 => ?_) (fun c_5 => ?_)
    · refine wa_aload_n dX12_rule_17 rfl ?_
      refine wa_bipush dX12_rule_18 rfl ?_
      refine wa_callV (ci := 12) dX12_rule_20 KX12_refuses LX12_113 ⟨_, _, rfl, by decide⟩ o168 (hrf) (by decide) rfl (Nat.le_of_ble_eq_true rfl) rfl rfl (fun r h' hq => ?_)
      obtain ⟨rfl, hq⟩ := hq
      refine wa_ireturn dX12_rule_23 rfl ?_
      exact ⟨rfl, hq⟩
    · omega
end S99j
