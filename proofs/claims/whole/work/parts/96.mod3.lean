/-! ===== 96: the reference: closes ===== -/
def wH (X : TS) (h : Nat → Int) : TS := (X.1, X.2.1, X.2.2.1, X.2.2.2.1, X.2.2.2.2.1, h)
/-- within a pass over all pairs: those ahead of (t, u) are looked at -/
def PassI (X : TS) (h0 h : Nat → Int) (m : Int) (t u : Nat) : Prop := Just X.1 X.2.1 X.2.2.1 X.2.2.2.1 X.2.2.2.2.2 h ∧ ((m = 0 ∧ h = h0 ∧ ∀ t' u', t' < u' → u' < X.1 → (t' < t ∨ (t' = t ∧ u' < u)) → Cong X.1 X.2.1 X.2.2.1 X.2.2.2.1 h t' u' → h t' = h u') ∨ (m = 1 ∧ nCls X.1 h < nCls X.1 h0))
theorem Cong.symm' {n : Nat} {sg on ot h : Nat → Int} {t u : Nat} (c : Cong n sg on ot h t u) : Cong n sg on ot h u t := ⟨c.1.symm, c.2.1.symm, c.2.2.symm⟩
theorem PassI.done {X : TS} {h0 h : Nat → Int} {u : Nat} (p : PassI X h0 h 0 X.1 u) : IsCl X.1 X.2.1 X.2.2.1 X.2.2.2.1 X.2.2.2.2.2 h := by
  obtain ⟨p1, p2 | p2⟩ := p
  · refine ⟨p1, fun t u ht hu c => ?_⟩
    by_cases e : t = u
    · rw [e]
    · by_cases z : t < u
      · exact p2.2.2 t u z hu (Or.inl ht) c
      · exact (p2.2.2 u t (by omega) ht (Or.inl hu) c.symm').symm
  · omega
theorem PassI.next {X : TS} {h0 h : Nat → Int} {m : Int} {t u : Nat} (p : PassI X h0 h m t u) (hno : ¬ (Cong X.1 X.2.1 X.2.2.1 X.2.2.2.1 h t u ∧ h t ≠ h u)) : PassI X h0 h m t (u + 1) := by
  obtain ⟨p1, p2 | p2⟩ := p
  · refine ⟨p1, Or.inl ⟨p2.1, p2.2.1, fun t' u' a b c d => ?_⟩⟩
    by_cases e : t' = t ∧ u' = u
    · obtain ⟨rfl, rfl⟩ := e
      apply Classical.byContradiction
      intro k
      exact hno ⟨d, k⟩
    · exact p2.2.2 t' u' a b (by omega) d
  · exact ⟨p1, Or.inr p2⟩
theorem PassI.join {X : TS} {h0 h : Nat → Int} {m : Int} {t u : Nat} (p : PassI X h0 h m t u) (ht : t < X.1) (hu : u < X.1) (c : Cong X.1 X.2.1 X.2.2.1 X.2.2.2.1 h t u) (hne : h t ≠ h u) : PassI X h0 (tmJn X.1 h (h t) (h u)) 1 t (u + 1) := by
  obtain ⟨p1, p2⟩ := p
  refine ⟨p1.cong ht hu c, Or.inr ⟨rfl, ?_⟩⟩
  have := nCls_join p1.1 ht hu hne
  rcases p2 with q | q
  · rw [← q.2.1]; omega
  · omega
theorem PassI.line {X : TS} {h0 h : Nat → Int} {m : Int} {t u : Nat} (p : PassI X h0 h m t u) (hu : X.1 ≤ u) : PassI X h0 h m (t + 1) (t + 2) := by
  obtain ⟨p1, p2 | p2⟩ := p
  · exact ⟨p1, Or.inl ⟨p2.1, p2.2.1, fun t' u' a b c d => p2.2.2 t' u' a b (by omega) d⟩⟩
  · exact ⟨p1, Or.inr p2⟩
section S96
variable {S : tmS} {I : Nat → Nat → Int} {L : Nat → Nat → Int64}
set_option maxRecDepth 20000 in
set_option maxHeartbeats 1000000 in
theorem mcl_in (hL : LX S) {X : TS} (hX : TsOK X) {h0 : Nat → Int} {t : Nat} (ht : t < X.1) (Q : Option tmV → tmH → Prop)
    (kk : ∀ (h : Nat → Int) (m : Int) (I' : Nat → Nat → Int), (m = 0 ∨ m = 1) → MT I' (wH X h) → MFx I I' → PassI X h0 h m (t + 1) (t + 2) → tmW kX12_closes 3 0 0 129 [some (tR 168), some (tI m), some (tI t), some (tI X.1)] [] (S, I', L) Q) : ∀ (j u : Nat) (h : Nat → Int) (m : Int) (I' : Nat → Nat → Int), u + j = X.1 → (m = 0 ∨ m = 1) → t + 1 ≤ u → MT I' (wH X h) → MFx I I' → PassI X h0 h m t u →
    tmW kX12_closes 3 0 0 24 [some (tR 168), some (tI m), some (tI t), some (tI u)] [] (S, I', L) Q := by
  intro j
  have o168 := oX168 hL
  have r168_0 := rX168_0 hL
  have r168_1 := rX168_1 hL
  have r168_3 := rX168_3 hL
  have r168_4 := rX168_4 hL
  have r168_5 := rX168_5 hL
  have r168_6 := rX168_6 hL
  have r168_7 := rX168_7 hL
  have r168_8 := rX168_8 hL
  have r168_11 := rX168_11 hL
  have r168_13 := rX168_13 hL
  have r168_17 := rX168_17 hL
  have r168_18 := rX168_18 hL
  have r168_19 := rX168_19 hL
  have r168_21 := rX168_21 hL
  have r168_22 := rX168_22 hL
  have r168_23 := rX168_23 hL
  have r168_24 := rX168_24 hL
  have r168_25 := rX168_25 hL
  have r168_26 := rX168_26 hL
  have r168_27 := rX168_27 hL
  have r168_28 := rX168_28 hL
  have r168_29 := rX168_29 hL
  have r168_30 := rX168_30 hL
  have o169 := oX169 hL
  have hn5 := hX.1
  induction j with
  | zero =>
    intro u h m I' hu hm htu hM hf hp
    obtain rfl : u = X.1 := by omega
    have hn : I' 169 0 = (X.1 : Int) := hM.1
    have nx := kk h m I' hm hM hf (hp.line (Nat.le_refl _))
    refine wa_iload_n dX12_closes_24 rfl ?_
    refine wa_aload_n dX12_closes_25 rfl ?_
    refine wt_getR dX12_closes_26 FX12_7 (by assumption) (by assumption) ?_
    refine wa_iconst dX12_closes_29 ?_
    refine wt_iald 0 dX12_closes_30 (by assumption) rfl (by omega) ?_
    try first | rw [hn] | skip
    refine wa_icmp_ge 129 dX12_closes_31 (by decide) (by exact ⟨by omega, by omega⟩) (by exact ⟨by omega, by omega⟩) (fun c_31 => ?_) (fun c_31 => ?_)
    · exact nx
    · omega
  | succ j ih =>
    intro u h m I' hu hm htu hM hf hp
    have hn : I' 169 0 = (X.1 : Int) := hM.1
    have hHO := hp.1.1
    refine wt_ir (fun hI => ?_)
    obtain ⟨t1, t2, t3, t4, t5⟩ := hM.2 t ht
    obtain ⟨u1, u2, u3, u4, u5⟩ := hM.2 u (show u < X.1 by omega)
    have t1 : I' 169 (2 + t) = X.2.1 t := t1
    have t2 : I' 169 (52 + t) = X.2.2.1 t := t2
    have t3 : I' 169 (102 + t) = X.2.2.2.1 t := t3
    have t5 : I' 169 (202 + t) = h t := t5
    have u1 : I' 169 (2 + u) = X.2.1 u := u1
    have u2 : I' 169 (52 + u) = X.2.2.1 u := u2
    have u3 : I' 169 (102 + u) = X.2.2.2.1 u := u3
    have u5 : I' 169 (202 + u) = h u := u5
    have wt := hX.2.1 t ht
    have wu := hX.2.1 u (by omega)
    have k1 := c_mclassOf (I := I') (L := L) hL t (by omega)
    have k2 := c_mclassOf (I := I') (L := L) hL u (by omega)
    rw [t5] at k1
    rw [u5] at k2
    have hrow : ∀ x, x < X.1 → I' 169 (202 + x) = h x := fun x hx => (hM.2 x hx).2.2.2.2
    have k3 := c_misPart (I := I') (L := L) hL hHO hrow hn5 (X.2.2.1 t) (X.2.2.1 u) ⟨by omega, by omega⟩ ⟨by omega, by omega⟩
    have k4 := c_misPart (I := I') (L := L) hL hHO hrow hn5 (X.2.2.2.1 t) (X.2.2.2.1 u) ⟨by omega, by omega⟩ ⟨by omega, by omega⟩
    have ok : TsOK (wH X h) := ⟨hX.1, hX.2.1, hHO, hX.2.2.2⟩
    have k5 := c_mjoins (I := I') (L := L) hL hM ok t u ht (show u < X.1 by omega)
    have h1 := hHO t ht
    have h2 := hHO u (by omega)
    have no : ¬ (Cong X.1 X.2.1 X.2.2.1 X.2.2.2.1 h t u ∧ h t ≠ h u) → tmW kX12_closes 3 0 0 123 [some (tR 168), some (tI m), some (tI t), some (tI u)] [] (S, I', L) Q := by
      intro hc
      have nx := ih (u + 1) h m I' (by omega) hm (by omega) hM hf (hp.next hc)
      refine wa_iinc dX12_closes_123 rfl (by decide) ?_
      refine wa_goto 24 dX12_closes_126 (by decide) ?_
      exact nx
    by_cases c1 : X.2.1 t = X.2.1 u
    · by_cases c2 : h t = h u
      · have := no (fun z => z.2 c2)
        refine wa_iload_n dX12_closes_24 rfl ?_
        refine wa_aload_n dX12_closes_25 rfl ?_
        refine wt_getR dX12_closes_26 FX12_7 (by assumption) (by assumption) ?_
        refine wa_iconst dX12_closes_29 ?_
        refine wt_iald 0 dX12_closes_30 (by assumption) rfl (by omega) ?_
        try first | rw [hn] | rw [t1] | rw [u1] | skip
        refine wa_icmp_ge 129 dX12_closes_31 (by decide) (by first | exact hI _ _ | exact ⟨by omega, by omega⟩) (by first | exact hI _ _ | exact ⟨by omega, by omega⟩) (fun c_31 => ?_) (fun c_31 => ?_)
        · omega
        · refine wa_aload_n dX12_closes_34 rfl ?_
          refine wt_getR dX12_closes_35 FX12_7 (by assumption) (by assumption) ?_
          refine wa_iconst dX12_closes_38 ?_
          refine wa_iload_n dX12_closes_39 rfl ?_
          refine wa_iadd dX12_closes_40 ?_
          refine wt_iald (2 + t) dX12_closes_41 (by assumption) (by omega) (by omega) ?_
          try first | rw [hn] | rw [t1] | rw [u1] | skip
          refine wa_aload_n dX12_closes_42 rfl ?_
          refine wt_getR dX12_closes_43 FX12_7 (by assumption) (by assumption) ?_
          refine wa_iconst dX12_closes_46 ?_
          refine wa_iload_n dX12_closes_47 rfl ?_
          refine wa_iadd dX12_closes_48 ?_
          refine wt_iald (2 + u) dX12_closes_49 (by assumption) (by omega) (by omega) ?_
          try first | rw [hn] | rw [t1] | rw [u1] | skip
          refine wa_icmp_ne 123 dX12_closes_50 (by decide) (by first | exact hI _ _ | exact ⟨by omega, by omega⟩) (by first | exact hI _ _ | exact ⟨by omega, by omega⟩) (fun c_50 => ?_) (fun c_50 => ?_)
          · exact absurd c1 c_50
          · refine wa_aload_n dX12_closes_53 rfl ?_
            refine wa_iload_n dX12_closes_54 rfl ?_
            refine wa_callVf (ci := 12) dX12_closes_55 KX12_classOf LX12_95 ⟨_, _, rfl, by decide⟩ o168 (k1) (by decide) rfl rfl (Nat.le_of_ble_eq_true rfl) rfl rfl ?_
            refine wa_aload_n dX12_closes_58 rfl ?_
            refine wa_iload_n dX12_closes_59 rfl ?_
            refine wa_callVf (ci := 12) dX12_closes_60 KX12_classOf LX12_95 ⟨_, _, rfl, by decide⟩ o168 (k2) (by decide) rfl rfl (Nat.le_of_ble_eq_true rfl) rfl rfl ?_
            refine wa_icmp_eq 123 dX12_closes_63 (by decide) (by first | exact hI _ _ | exact ⟨by omega, by omega⟩) (by first | exact hI _ _ | exact ⟨by omega, by omega⟩) (fun c_63 => ?_) (fun c_63 => ?_)
            · exact this
            · exact absurd c2 c_63
      · by_cases c3 : tmHome X.1 h (X.2.2.1 t) = tmHome X.1 h (X.2.2.1 u)
        · rw [if_pos c3] at k3
          by_cases c4 : tmHome X.1 h (X.2.2.2.1 t) = tmHome X.1 h (X.2.2.2.1 u)
          · rw [if_pos c4] at k4
            have hc : Cong X.1 X.2.1 X.2.2.1 X.2.2.2.1 h t u := ⟨c1, c3, c4⟩
            refine wa_iload_n dX12_closes_24 rfl ?_
            refine wa_aload_n dX12_closes_25 rfl ?_
            refine wt_getR dX12_closes_26 FX12_7 (by assumption) (by assumption) ?_
            refine wa_iconst dX12_closes_29 ?_
            refine wt_iald 0 dX12_closes_30 (by assumption) rfl (by omega) ?_
            try first | rw [hn] | rw [t1] | rw [u1] | rw [t2] | rw [u2] | rw [t3] | rw [u3] | skip
            refine wa_icmp_ge 129 dX12_closes_31 (by decide) (by first | exact hI _ _ | exact ⟨by omega, by omega⟩) (by first | exact hI _ _ | exact ⟨by omega, by omega⟩) (fun c_31 => ?_) (fun c_31 => ?_)
            · omega
            · refine wa_aload_n dX12_closes_34 rfl ?_
              refine wt_getR dX12_closes_35 FX12_7 (by assumption) (by assumption) ?_
              refine wa_iconst dX12_closes_38 ?_
              refine wa_iload_n dX12_closes_39 rfl ?_
              refine wa_iadd dX12_closes_40 ?_
              refine wt_iald (2 + t) dX12_closes_41 (by assumption) (by omega) (by omega) ?_
              try first | rw [hn] | rw [t1] | rw [u1] | rw [t2] | rw [u2] | rw [t3] | rw [u3] | skip
              refine wa_aload_n dX12_closes_42 rfl ?_
              refine wt_getR dX12_closes_43 FX12_7 (by assumption) (by assumption) ?_
              refine wa_iconst dX12_closes_46 ?_
              refine wa_iload_n dX12_closes_47 rfl ?_
              refine wa_iadd dX12_closes_48 ?_
              refine wt_iald (2 + u) dX12_closes_49 (by assumption) (by omega) (by omega) ?_
              try first | rw [hn] | rw [t1] | rw [u1] | rw [t2] | rw [u2] | rw [t3] | rw [u3] | skip
              refine wa_icmp_ne 123 dX12_closes_50 (by decide) (by first | exact hI _ _ | exact ⟨by omega, by omega⟩) (by first | exact hI _ _ | exact ⟨by omega, by omega⟩) (fun c_50 => ?_) (fun c_50 => ?_)
              · exact absurd c1 c_50
              · refine wa_aload_n dX12_closes_53 rfl ?_
                refine wa_iload_n dX12_closes_54 rfl ?_
                refine wa_callVf (ci := 12) dX12_closes_55 KX12_classOf LX12_95 ⟨_, _, rfl, by decide⟩ o168 (k1) (by decide) rfl rfl (Nat.le_of_ble_eq_true rfl) rfl rfl ?_
                refine wa_aload_n dX12_closes_58 rfl ?_
                refine wa_iload_n dX12_closes_59 rfl ?_
                refine wa_callVf (ci := 12) dX12_closes_60 KX12_classOf LX12_95 ⟨_, _, rfl, by decide⟩ o168 (k2) (by decide) rfl rfl (Nat.le_of_ble_eq_true rfl) rfl rfl ?_
                refine wa_icmp_eq 123 dX12_closes_63 (by decide) (by first | exact hI _ _ | exact ⟨by omega, by omega⟩) (by first | exact hI _ _ | exact ⟨by omega, by omega⟩) (fun c_63 => ?_) (fun c_63 => ?_)
                · exact absurd c_63 c2
                · refine wa_aload_n dX12_closes_66 rfl ?_
                  refine wa_aload_n dX12_closes_67 rfl ?_
                  refine wt_getR dX12_closes_68 FX12_7 (by assumption) (by assumption) ?_
                  refine wa_bipush dX12_closes_71 rfl ?_
                  refine wa_iload_n dX12_closes_73 rfl ?_
                  refine wa_iadd dX12_closes_74 ?_
                  refine wt_iald (52 + t) dX12_closes_75 (by assumption) (by omega) (by omega) ?_
                  try first | rw [hn] | rw [t1] | rw [u1] | rw [t2] | rw [u2] | rw [t3] | rw [u3] | skip
                  refine wa_aload_n dX12_closes_76 rfl ?_
                  refine wt_getR dX12_closes_77 FX12_7 (by assumption) (by assumption) ?_
                  refine wa_bipush dX12_closes_80 rfl ?_
                  refine wa_iload_n dX12_closes_82 rfl ?_
                  refine wa_iadd dX12_closes_83 ?_
                  refine wt_iald (52 + u) dX12_closes_84 (by assumption) (by omega) (by omega) ?_
                  try first | rw [hn] | rw [t1] | rw [u1] | rw [t2] | rw [u2] | rw [t3] | rw [u3] | skip
                  refine wa_callVf (ci := 12) dX12_closes_85 KX12_isPart LX12_99 ⟨_, _, rfl, by decide⟩ o168 (k3) (by decide) rfl rfl (Nat.le_of_ble_eq_true rfl) rfl rfl ?_
                  refine wa_if_eq 123 dX12_closes_88 (by decide) (by first | exact hI _ _ | exact ⟨by omega, by omega⟩) (fun c_88 => ?_) (fun c_88 => ?_)
                  · omega
                  · refine wa_aload_n dX12_closes_91 rfl ?_
                    refine wa_aload_n dX12_closes_92 rfl ?_
                    refine wt_getR dX12_closes_93 FX12_7 (by assumption) (by assumption) ?_
                    refine wa_bipush dX12_closes_96 rfl ?_
                    refine wa_iload_n dX12_closes_98 rfl ?_
                    refine wa_iadd dX12_closes_99 ?_
                    refine wt_iald (102 + t) dX12_closes_100 (by assumption) (by omega) (by omega) ?_
                    try first | rw [hn] | rw [t1] | rw [u1] | rw [t2] | rw [u2] | rw [t3] | rw [u3] | skip
                    refine wa_aload_n dX12_closes_101 rfl ?_
                    refine wt_getR dX12_closes_102 FX12_7 (by assumption) (by assumption) ?_
                    refine wa_bipush dX12_closes_105 rfl ?_
                    refine wa_iload_n dX12_closes_107 rfl ?_
                    refine wa_iadd dX12_closes_108 ?_
                    refine wt_iald (102 + u) dX12_closes_109 (by assumption) (by omega) (by omega) ?_
                    try first | rw [hn] | rw [t1] | rw [u1] | rw [t2] | rw [u2] | rw [t3] | rw [u3] | skip
                    refine wa_callVf (ci := 12) dX12_closes_110 KX12_isPart LX12_99 ⟨_, _, rfl, by decide⟩ o168 (k4) (by decide) rfl rfl (Nat.le_of_ble_eq_true rfl) rfl rfl ?_
                    refine wa_if_eq 123 dX12_closes_113 (by decide) (by first | exact hI _ _ | exact ⟨by omega, by omega⟩) (fun c_113 => ?_) (fun c_113 => ?_)
                    · omega
                    · refine wa_aload_n dX12_closes_116 rfl ?_
                      refine wa_iload_n dX12_closes_117 rfl ?_
                      refine wa_iload_n dX12_closes_118 rfl ?_
                      refine wa_callV (ci := 12) dX12_closes_119 KX12_joins LX12_103 ⟨_, _, rfl, by decide⟩ o168 (k5) (by decide) rfl (Nat.le_of_ble_eq_true rfl) rfl rfl (fun r h' hq => ?_)
                      obtain ⟨rfl, I2, rfl, m1, m2⟩ := hq
                      have eif : (if (wH X h).2.2.2.2.2 t = (wH X h).2.2.2.2.2 u then (0 : Int) else 1) = 1 := if_neg c2
                      rw [eif]
                      refine wa_istore_n dX12_closes_122 (by decide) ?_
                      refine wa_iinc dX12_closes_123 rfl (by decide) ?_
                      refine wa_goto 24 dX12_closes_126 (by decide) ?_
                      exact ih (u + 1) (tmJn X.1 h (h t) (h u)) 1 I2 (by omega) (Or.inr rfl) (by omega) m1 (hf.trans' m2) (hp.join ht (by omega) hc c2)
          · rw [if_neg c4] at k4
            have := no (fun z => c4 z.1.2.2)
            refine wa_iload_n dX12_closes_24 rfl ?_
            refine wa_aload_n dX12_closes_25 rfl ?_
            refine wt_getR dX12_closes_26 FX12_7 (by assumption) (by assumption) ?_
            refine wa_iconst dX12_closes_29 ?_
            refine wt_iald 0 dX12_closes_30 (by assumption) rfl (by omega) ?_
            try first | rw [hn] | rw [t1] | rw [u1] | rw [t2] | rw [u2] | rw [t3] | rw [u3] | skip
            refine wa_icmp_ge 129 dX12_closes_31 (by decide) (by first | exact hI _ _ | exact ⟨by omega, by omega⟩) (by first | exact hI _ _ | exact ⟨by omega, by omega⟩) (fun c_31 => ?_) (fun c_31 => ?_)
            · omega
            · refine wa_aload_n dX12_closes_34 rfl ?_
              refine wt_getR dX12_closes_35 FX12_7 (by assumption) (by assumption) ?_
              refine wa_iconst dX12_closes_38 ?_
              refine wa_iload_n dX12_closes_39 rfl ?_
              refine wa_iadd dX12_closes_40 ?_
              refine wt_iald (2 + t) dX12_closes_41 (by assumption) (by omega) (by omega) ?_
              try first | rw [hn] | rw [t1] | rw [u1] | rw [t2] | rw [u2] | rw [t3] | rw [u3] | skip
              refine wa_aload_n dX12_closes_42 rfl ?_
              refine wt_getR dX12_closes_43 FX12_7 (by assumption) (by assumption) ?_
              refine wa_iconst dX12_closes_46 ?_
              refine wa_iload_n dX12_closes_47 rfl ?_
              refine wa_iadd dX12_closes_48 ?_
              refine wt_iald (2 + u) dX12_closes_49 (by assumption) (by omega) (by omega) ?_
              try first | rw [hn] | rw [t1] | rw [u1] | rw [t2] | rw [u2] | rw [t3] | rw [u3] | skip
              refine wa_icmp_ne 123 dX12_closes_50 (by decide) (by first | exact hI _ _ | exact ⟨by omega, by omega⟩) (by first | exact hI _ _ | exact ⟨by omega, by omega⟩) (fun c_50 => ?_) (fun c_50 => ?_)
              · exact absurd c1 c_50
              · refine wa_aload_n dX12_closes_53 rfl ?_
                refine wa_iload_n dX12_closes_54 rfl ?_
                refine wa_callVf (ci := 12) dX12_closes_55 KX12_classOf LX12_95 ⟨_, _, rfl, by decide⟩ o168 (k1) (by decide) rfl rfl (Nat.le_of_ble_eq_true rfl) rfl rfl ?_
                refine wa_aload_n dX12_closes_58 rfl ?_
                refine wa_iload_n dX12_closes_59 rfl ?_
                refine wa_callVf (ci := 12) dX12_closes_60 KX12_classOf LX12_95 ⟨_, _, rfl, by decide⟩ o168 (k2) (by decide) rfl rfl (Nat.le_of_ble_eq_true rfl) rfl rfl ?_
                refine wa_icmp_eq 123 dX12_closes_63 (by decide) (by first | exact hI _ _ | exact ⟨by omega, by omega⟩) (by first | exact hI _ _ | exact ⟨by omega, by omega⟩) (fun c_63 => ?_) (fun c_63 => ?_)
                · exact absurd c_63 c2
                · refine wa_aload_n dX12_closes_66 rfl ?_
                  refine wa_aload_n dX12_closes_67 rfl ?_
                  refine wt_getR dX12_closes_68 FX12_7 (by assumption) (by assumption) ?_
                  refine wa_bipush dX12_closes_71 rfl ?_
                  refine wa_iload_n dX12_closes_73 rfl ?_
                  refine wa_iadd dX12_closes_74 ?_
                  refine wt_iald (52 + t) dX12_closes_75 (by assumption) (by omega) (by omega) ?_
                  try first | rw [hn] | rw [t1] | rw [u1] | rw [t2] | rw [u2] | rw [t3] | rw [u3] | skip
                  refine wa_aload_n dX12_closes_76 rfl ?_
                  refine wt_getR dX12_closes_77 FX12_7 (by assumption) (by assumption) ?_
                  refine wa_bipush dX12_closes_80 rfl ?_
                  refine wa_iload_n dX12_closes_82 rfl ?_
                  refine wa_iadd dX12_closes_83 ?_
                  refine wt_iald (52 + u) dX12_closes_84 (by assumption) (by omega) (by omega) ?_
                  try first | rw [hn] | rw [t1] | rw [u1] | rw [t2] | rw [u2] | rw [t3] | rw [u3] | skip
                  refine wa_callVf (ci := 12) dX12_closes_85 KX12_isPart LX12_99 ⟨_, _, rfl, by decide⟩ o168 (k3) (by decide) rfl rfl (Nat.le_of_ble_eq_true rfl) rfl rfl ?_
                  refine wa_if_eq 123 dX12_closes_88 (by decide) (by first | exact hI _ _ | exact ⟨by omega, by omega⟩) (fun c_88 => ?_) (fun c_88 => ?_)
                  · omega
                  · refine wa_aload_n dX12_closes_91 rfl ?_
                    refine wa_aload_n dX12_closes_92 rfl ?_
                    refine wt_getR dX12_closes_93 FX12_7 (by assumption) (by assumption) ?_
                    refine wa_bipush dX12_closes_96 rfl ?_
                    refine wa_iload_n dX12_closes_98 rfl ?_
                    refine wa_iadd dX12_closes_99 ?_
                    refine wt_iald (102 + t) dX12_closes_100 (by assumption) (by omega) (by omega) ?_
                    try first | rw [hn] | rw [t1] | rw [u1] | rw [t2] | rw [u2] | rw [t3] | rw [u3] | skip
                    refine wa_aload_n dX12_closes_101 rfl ?_
                    refine wt_getR dX12_closes_102 FX12_7 (by assumption) (by assumption) ?_
                    refine wa_bipush dX12_closes_105 rfl ?_
                    refine wa_iload_n dX12_closes_107 rfl ?_
                    refine wa_iadd dX12_closes_108 ?_
                    refine wt_iald (102 + u) dX12_closes_109 (by assumption) (by omega) (by omega) ?_
                    try first | rw [hn] | rw [t1] | rw [u1] | rw [t2] | rw [u2] | rw [t3] | rw [u3] | skip
                    refine wa_callVf (ci := 12) dX12_closes_110 KX12_isPart LX12_99 ⟨_, _, rfl, by decide⟩ o168 (k4) (by decide) rfl rfl (Nat.le_of_ble_eq_true rfl) rfl rfl ?_
                    refine wa_if_eq 123 dX12_closes_113 (by decide) (by first | exact hI _ _ | exact ⟨by omega, by omega⟩) (fun c_113 => ?_) (fun c_113 => ?_)
                    · exact this
                    · omega
        · rw [if_neg c3] at k3
          have := no (fun z => c3 z.1.2.1)
          refine wa_iload_n dX12_closes_24 rfl ?_
          refine wa_aload_n dX12_closes_25 rfl ?_
          refine wt_getR dX12_closes_26 FX12_7 (by assumption) (by assumption) ?_
          refine wa_iconst dX12_closes_29 ?_
          refine wt_iald 0 dX12_closes_30 (by assumption) rfl (by omega) ?_
          try first | rw [hn] | rw [t1] | rw [u1] | rw [t2] | rw [u2] | skip
          refine wa_icmp_ge 129 dX12_closes_31 (by decide) (by first | exact hI _ _ | exact ⟨by omega, by omega⟩) (by first | exact hI _ _ | exact ⟨by omega, by omega⟩) (fun c_31 => ?_) (fun c_31 => ?_)
          · omega
          · refine wa_aload_n dX12_closes_34 rfl ?_
            refine wt_getR dX12_closes_35 FX12_7 (by assumption) (by assumption) ?_
            refine wa_iconst dX12_closes_38 ?_
            refine wa_iload_n dX12_closes_39 rfl ?_
            refine wa_iadd dX12_closes_40 ?_
            refine wt_iald (2 + t) dX12_closes_41 (by assumption) (by omega) (by omega) ?_
            try first | rw [hn] | rw [t1] | rw [u1] | rw [t2] | rw [u2] | skip
            refine wa_aload_n dX12_closes_42 rfl ?_
            refine wt_getR dX12_closes_43 FX12_7 (by assumption) (by assumption) ?_
            refine wa_iconst dX12_closes_46 ?_
            refine wa_iload_n dX12_closes_47 rfl ?_
            refine wa_iadd dX12_closes_48 ?_
            refine wt_iald (2 + u) dX12_closes_49 (by assumption) (by omega) (by omega) ?_
            try first | rw [hn] | rw [t1] | rw [u1] | rw [t2] | rw [u2] | skip
            refine wa_icmp_ne 123 dX12_closes_50 (by decide) (by first | exact hI _ _ | exact ⟨by omega, by omega⟩) (by first | exact hI _ _ | exact ⟨by omega, by omega⟩) (fun c_50 => ?_) (fun c_50 => ?_)
            · exact absurd c1 c_50
            · refine wa_aload_n dX12_closes_53 rfl ?_
              refine wa_iload_n dX12_closes_54 rfl ?_
              refine wa_callVf (ci := 12) dX12_closes_55 KX12_classOf LX12_95 ⟨_, _, rfl, by decide⟩ o168 (k1) (by decide) rfl rfl (Nat.le_of_ble_eq_true rfl) rfl rfl ?_
              refine wa_aload_n dX12_closes_58 rfl ?_
              refine wa_iload_n dX12_closes_59 rfl ?_
              refine wa_callVf (ci := 12) dX12_closes_60 KX12_classOf LX12_95 ⟨_, _, rfl, by decide⟩ o168 (k2) (by decide) rfl rfl (Nat.le_of_ble_eq_true rfl) rfl rfl ?_
              refine wa_icmp_eq 123 dX12_closes_63 (by decide) (by first | exact hI _ _ | exact ⟨by omega, by omega⟩) (by first | exact hI _ _ | exact ⟨by omega, by omega⟩) (fun c_63 => ?_) (fun c_63 => ?_)
              · exact absurd c_63 c2
              · refine wa_aload_n dX12_closes_66 rfl ?_
                refine wa_aload_n dX12_closes_67 rfl ?_
                refine wt_getR dX12_closes_68 FX12_7 (by assumption) (by assumption) ?_
                refine wa_bipush dX12_closes_71 rfl ?_
                refine wa_iload_n dX12_closes_73 rfl ?_
                refine wa_iadd dX12_closes_74 ?_
                refine wt_iald (52 + t) dX12_closes_75 (by assumption) (by omega) (by omega) ?_
                try first | rw [hn] | rw [t1] | rw [u1] | rw [t2] | rw [u2] | skip
                refine wa_aload_n dX12_closes_76 rfl ?_
                refine wt_getR dX12_closes_77 FX12_7 (by assumption) (by assumption) ?_
                refine wa_bipush dX12_closes_80 rfl ?_
                refine wa_iload_n dX12_closes_82 rfl ?_
                refine wa_iadd dX12_closes_83 ?_
                refine wt_iald (52 + u) dX12_closes_84 (by assumption) (by omega) (by omega) ?_
                try first | rw [hn] | rw [t1] | rw [u1] | rw [t2] | rw [u2] | skip
                refine wa_callVf (ci := 12) dX12_closes_85 KX12_isPart LX12_99 ⟨_, _, rfl, by decide⟩ o168 (k3) (by decide) rfl rfl (Nat.le_of_ble_eq_true rfl) rfl rfl ?_
                refine wa_if_eq 123 dX12_closes_88 (by decide) (by first | exact hI _ _ | exact ⟨by omega, by omega⟩) (fun c_88 => ?_) (fun c_88 => ?_)
                · exact this
                · omega
    · have := no (fun z => c1 z.1.1)
      refine wa_iload_n dX12_closes_24 rfl ?_
      refine wa_aload_n dX12_closes_25 rfl ?_
      refine wt_getR dX12_closes_26 FX12_7 (by assumption) (by assumption) ?_
      refine wa_iconst dX12_closes_29 ?_
      refine wt_iald 0 dX12_closes_30 (by assumption) rfl (by omega) ?_
      try first | rw [hn] | rw [t1] | rw [u1] | skip
      refine wa_icmp_ge 129 dX12_closes_31 (by decide) (by first | exact hI _ _ | exact ⟨by omega, by omega⟩) (by first | exact hI _ _ | exact ⟨by omega, by omega⟩) (fun c_31 => ?_) (fun c_31 => ?_)
      · omega
      · refine wa_aload_n dX12_closes_34 rfl ?_
        refine wt_getR dX12_closes_35 FX12_7 (by assumption) (by assumption) ?_
        refine wa_iconst dX12_closes_38 ?_
        refine wa_iload_n dX12_closes_39 rfl ?_
        refine wa_iadd dX12_closes_40 ?_
        refine wt_iald (2 + t) dX12_closes_41 (by assumption) (by omega) (by omega) ?_
        try first | rw [hn] | rw [t1] | rw [u1] | skip
        refine wa_aload_n dX12_closes_42 rfl ?_
        refine wt_getR dX12_closes_43 FX12_7 (by assumption) (by assumption) ?_
        refine wa_iconst dX12_closes_46 ?_
        refine wa_iload_n dX12_closes_47 rfl ?_
        refine wa_iadd dX12_closes_48 ?_
        refine wt_iald (2 + u) dX12_closes_49 (by assumption) (by omega) (by omega) ?_
        try first | rw [hn] | rw [t1] | rw [u1] | skip
        refine wa_icmp_ne 123 dX12_closes_50 (by decide) (by first | exact hI _ _ | exact ⟨by omega, by omega⟩) (by first | exact hI _ _ | exact ⟨by omega, by omega⟩) (fun c_50 => ?_) (fun c_50 => ?_)
        · exact this
        · exact absurd c_50 c1
set_option maxRecDepth 20000 in
theorem mcl_mid (hL : LX S) {X : TS} (hX : TsOK X) {h0 : Nat → Int} (Q : Option tmV → tmH → Prop)
    (kk : ∀ (h : Nat → Int) (m : Int) (I' : Nat → Nat → Int) (x : Option tmV), (m = 0 ∨ m = 1) → MT I' (wH X h) → MFx I I' → PassI X h0 h m X.1 (X.1 + 1) → tmW kX12_closes 3 0 0 135 [some (tR 168), some (tI m), some (tI X.1), x] [] (S, I', L) Q) : ∀ (j t : Nat) (h : Nat → Int) (m : Int) (I' : Nat → Nat → Int) (x : Option tmV), t + j = X.1 → (m = 0 ∨ m = 1) → MT I' (wH X h) → MFx I I' → PassI X h0 h m t (t + 1) →
    tmW kX12_closes 3 0 0 10 [some (tR 168), some (tI m), some (tI t), x] [] (S, I', L) Q := by
  intro j
  have o168 := oX168 hL
  have r168_0 := rX168_0 hL
  have r168_1 := rX168_1 hL
  have r168_3 := rX168_3 hL
  have r168_4 := rX168_4 hL
  have r168_5 := rX168_5 hL
  have r168_6 := rX168_6 hL
  have r168_7 := rX168_7 hL
  have r168_8 := rX168_8 hL
  have r168_11 := rX168_11 hL
  have r168_13 := rX168_13 hL
  have r168_17 := rX168_17 hL
  have r168_18 := rX168_18 hL
  have r168_19 := rX168_19 hL
  have r168_21 := rX168_21 hL
  have r168_22 := rX168_22 hL
  have r168_23 := rX168_23 hL
  have r168_24 := rX168_24 hL
  have r168_25 := rX168_25 hL
  have r168_26 := rX168_26 hL
  have r168_27 := rX168_27 hL
  have r168_28 := rX168_28 hL
  have r168_29 := rX168_29 hL
  have r168_30 := rX168_30 hL
  have o169 := oX169 hL
  have hn5 := hX.1
  induction j with
  | zero =>
    intro t h m I' x ht hm hM hf hp
    obtain rfl : t = X.1 := by omega
    have hn : I' 169 0 = (X.1 : Int) := hM.1
    have nx := kk h m I' x hm hM hf hp
    refine wa_iload_n dX12_closes_10 rfl ?_
    refine wa_aload_n dX12_closes_11 rfl ?_
    refine wt_getR dX12_closes_12 FX12_7 (by assumption) (by assumption) ?_
    refine wa_iconst dX12_closes_15 ?_
    refine wt_iald 0 dX12_closes_16 (by assumption) rfl (by omega) ?_
    try first | rw [hn] | skip
    refine wa_icmp_ge 135 dX12_closes_17 (by decide) (by exact ⟨by omega, by omega⟩) (by exact ⟨by omega, by omega⟩) (fun c_17 => ?_) (fun c_17 => ?_)
    · exact nx
    · omega
  | succ j ih =>
    intro t h m I' x ht hm hM hf hp
    have hn : I' 169 0 = (X.1 : Int) := hM.1
    have inn := mcl_in (I := I) (L := L) hL hX (h0 := h0) (t := t) (by omega) Q (fun h m I' a1 a2 a3 a4 => by
      have nx := ih (t + 1) h m I' (some (tI X.1)) (by omega) a1 a2 a3 a4
      refine wa_iinc dX12_closes_129 rfl (by decide) ?_
      refine wa_goto 10 dX12_closes_132 (by decide) ?_
      exact nx
      ) (X.1 - (t + 1)) (t + 1) h m I' (by omega) hm (Nat.le_refl _) hM hf hp
    refine wa_iload_n dX12_closes_10 rfl ?_
    refine wa_aload_n dX12_closes_11 rfl ?_
    refine wt_getR dX12_closes_12 FX12_7 (by assumption) (by assumption) ?_
    refine wa_iconst dX12_closes_15 ?_
    refine wt_iald 0 dX12_closes_16 (by assumption) rfl (by omega) ?_
    try first | rw [hn] | skip
    refine wa_icmp_ge 135 dX12_closes_17 (by decide) (by exact ⟨by omega, by omega⟩) (by exact ⟨by omega, by omega⟩) (fun c_17 => ?_) (fun c_17 => ?_)
    · omega
    · refine wa_iload_n dX12_closes_20 rfl ?_
      refine wa_iconst dX12_closes_21 ?_
      refine wa_iadd dX12_closes_22 ?_
      refine wa_istore_n dX12_closes_23 (by decide) ?_
      exact inn
set_option maxRecDepth 20000 in
theorem mcl_out (hL : LX S) {X : TS} (hX : TsOK X) : ∀ (k : Nat) (h : Nat → Int) (I' : Nat → Nat → Int) (x y : Option tmV), nCls X.1 h ≤ k → MT I' (wH X h) → MFx I I' → Just X.1 X.2.1 X.2.2.1 X.2.2.2.1 X.2.2.2.2.2 h →
    tmW kX12_closes 3 0 0 2 [some (tR 168), some (tI 1), x, y] [] (S, I', L) (fun r h' => r = none ∧ ∃ I', h' = (S, I', L) ∧ MT I' (clX X) ∧ MFx I I') := by
  intro k
  induction k using Nat.strongRecOn with
  | ind k ih =>
    intro h I' x y hk hM hf hj
    have mid := mcl_mid (I := I) (L := L) hL hX (h0 := h) (fun r h' => r = none ∧ ∃ I', h' = (S, I', L) ∧ MT I' (clX X) ∧ MFx I I') (fun g m I2 x a1 a2 a3 a4 => by
      rcases a1 with rfl | rfl
      · have hcl := a4.done
        have hts := (clX_eq (TsEq.refl X) hcl).1.symm
        refine wa_goto 2 dX12_closes_135 (by decide) ?_
        refine wa_iload_n dX12_closes_2 rfl ?_
        refine wa_if_eq 138 dX12_closes_3 (by decide) (by exact ⟨by omega, by omega⟩) (fun c_3 => ?_) (fun c_3 => ?_)
        · refine wa_return dX12_closes_138 rfl ?_
          exact ⟨rfl, I2, rfl, a2.cg hts, a3⟩
        · omega
      · have hlt : nCls X.1 g < nCls X.1 h := by
          rcases a4.2 with q | q
          · omega
          · exact q.2
        have nx := ih (nCls X.1 g) (by omega) g I2 (some (tI X.1)) x (Nat.le_refl _) a2 a3 a4.1
        refine wa_goto 2 dX12_closes_135 (by decide) ?_
        exact nx
      ) X.1 0 h 0 I' y (by omega) (Or.inl rfl) hM hf ⟨hj, Or.inl ⟨rfl, rfl, fun t' u' a b c => by omega⟩⟩
    refine wa_iload_n dX12_closes_2 rfl ?_
    refine wa_if_eq 138 dX12_closes_3 (by decide) (by exact ⟨by omega, by omega⟩) (fun c_3 => ?_) (fun c_3 => ?_)
    · omega
    · refine wa_iconst dX12_closes_6 ?_
      refine wa_istore_n dX12_closes_7 (by decide) ?_
      refine wa_iconst dX12_closes_8 ?_
      refine wa_istore_n dX12_closes_9 (by decide) ?_
      exact mid
/-- closes: whatever follows -/
theorem c_mcloses (hL : LX S) {X : TS} (hM : MT I X) (hX : TsOK X) : tmC yX12_closes kX12_closes 3 0 0 [tR 168] (S, I, L) (fun r h' => r = none ∧ ∃ I', h' = (S, I', L) ∧ MT I' (clX X) ∧ MFx I I') := by
  refine tmC.mk (lv := [some (tR 168), none, none, none]) 3 ⟨rfl, by decide +kernel, by decide⟩ rfl rfl ?_
  have lp := mcl_out (I := I) (L := L) hL hX _ X.2.2.2.2.2 I none none (Nat.le_refl _) hM MFx.rfl' (Just.refl hX.2.2.1)
  refine wa_iconst dX12_closes_0 ?_
  refine wa_istore_n dX12_closes_1 (by decide) ?_
  exact lp
end S96
