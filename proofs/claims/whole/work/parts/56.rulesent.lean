/-! ===== 56: Text.ruleSentence, up to where the RULE is made ===== -/
/-- how the reading of a RULE's rest goes -/
def rsO (b : Nat → Int) (n nr m : Nat) (Z : ZS) : Bool × ZS :=
  if (Z.1 = 1 ∧ m ≠ 0) ∨ 6 ≤ nr then (false, Z)
  else if tkB b n Z.2.2.2.2.2.2.2 62 then
    (if (rdS b n m (zTo Z (tkP b n Z.2.2.2.2.2.2.2 62))).1 = true then
      (decide (tkB b n (rdS b n m (zTo Z (tkP b n Z.2.2.2.2.2.2.2 62))).2.2.2.2.2.2.2.2.2 59), zTo (rdS b n m (zTo Z (tkP b n Z.2.2.2.2.2.2.2 62))).2.2 (tkP b n (rdS b n m (zTo Z (tkP b n Z.2.2.2.2.2.2.2 62))).2.2.2.2.2.2.2.2.2 59))
    else (false, (rdS b n m (zTo Z (tkP b n Z.2.2.2.2.2.2.2 62))).2.2))
  else (false, zTo Z (tkP b n Z.2.2.2.2.2.2.2 62))
section S56
variable {S : tmS} {L : Nat → Nat → Int64}
set_option maxRecDepth 20000 in
set_option maxHeartbeats 2000000 in
theorem rule_head (hL : LX S) {n nr m dp bc bs : Nat} (hn1 : n ≤ 120) (hm : m < 8) {I : Nat → Nat → Int} {Z : ZS} (hn : I 155 1 = (n : Int)) (hz : ZH I dp Z) (hi : ZI n 0 Z) (hlf : I 157 1 = (Z.1 : Int)) (hnr : I 1 2 = (nr : Int)) (hnr6 : nr ≤ 6) (Q : Option tmV → tmH → Prop)
    (hfail : (rsO (I 156) n nr m Z).1 = false → ∀ I' dp', TxFr I I' → ZH I' dp' (rsO (I 156) n nr m Z).2 → Q (some (tI 0)) (S, I', L))
    (hgo : (rsO (I 156) n nr m Z).1 = true → ∀ I' dp' x, TxFr I I' → ZH I' dp' (rsO (I 156) n nr m Z).2 → tmW kX9_ruleSentence 7 bc bs 67 [some (tR 155), some (tI m), x] [] (S, I', L) Q) :
    tmW kX9_ruleSentence 7 bc bs 0 [some (tR 155), some (tI m), none] [] (S, I, L) Q := by
  have o155 := oX155 hL
  have r155_0 := rX155_0 hL
  have r155_2 := rX155_2 hL
  have r155_3 := rX155_3 hL
  have r155_4 := rX155_4 hL
  have r155_5 := rX155_5 hL
  have r155_6 := rX155_6 hL
  have o157 := oX157 hL
  have r157_2 := rX157_2 hL
  have r157_3 := rX157_3 hL
  have r157_4 := rX157_4 hL
  have r157_5 := rX157_5 hL
  have o1 := oX1 hL
  have r1_0 := rX1_0 hL
  have r1_1 := rX1_1 hL
  have r1_3 := rX1_3 hL
  obtain ⟨z1, z2, z3, z4⟩ := id hz
  have i1 := hi.1
  have i2 := hi.2.1
  by_cases hA : (Z.1 = 1 ∧ m ≠ 0) ∨ 6 ≤ nr
  · have hr : rsO (I 156) n nr m Z = (false, Z) := by unfold rsO; rw [if_pos hA]
    rw [hr] at hfail
    have fin := hfail rfl I dp TxFr.rfl' hz
    refine wa_aload_n dX9_ruleSentence_0 rfl ?_
    refine wt_getR dX9_ruleSentence_1 FX9_24 (by assumption) (by assumption) ?_
    refine wt_getI dX9_ruleSentence_4 FX9_66 (by assumption) ?_
    try first | rw [hlf] | rw [hnr]
    refine wa_iconst dX9_ruleSentence_7 ?_
    refine wa_icmp_ne 19 dX9_ruleSentence_8 (by decide) (by exact ⟨by omega, by omega⟩) (by exact ⟨by omega, by omega⟩) (fun c_8 => ?_) (fun c_8 => ?_)
    · refine wa_iconst dX9_ruleSentence_19 ?_
      refine wa_istore_n dX9_ruleSentence_20 (by decide) ?_
      refine wa_iload_n dX9_ruleSentence_21 rfl ?_
      refine wa_if_ne 46 dX9_ruleSentence_22 (by decide) (by exact ⟨by omega, by omega⟩) (fun c_22 => ?_) (fun c_22 => ?_)
      · refine wa_iconst dX9_ruleSentence_46 ?_
        refine wa_zreturn dX9_ruleSentence_47 rfl (by first | exact Or.inl rfl | exact Or.inr rfl) ?_
        exact fin
      · refine wa_aload_n dX9_ruleSentence_25 rfl ?_
        refine wt_getR dX9_ruleSentence_26 FX9_40 (by assumption) (by assumption) ?_
        refine wt_getI dX9_ruleSentence_29 FX9_82 (by assumption) ?_
        try first | rw [hlf] | rw [hnr]
        refine wa_bipush dX9_ruleSentence_32 rfl ?_
        refine wa_icmp_ge 46 dX9_ruleSentence_34 (by decide) (by exact ⟨by omega, by omega⟩) (by exact ⟨by omega, by omega⟩) (fun c_34 => ?_) (fun c_34 => ?_)
        · refine wa_iconst dX9_ruleSentence_46 ?_
          refine wa_zreturn dX9_ruleSentence_47 rfl (by first | exact Or.inl rfl | exact Or.inr rfl) ?_
          exact fin
        · exfalso; omega
    · refine wa_iload_n dX9_ruleSentence_11 rfl ?_
      refine wa_if_eq 19 dX9_ruleSentence_12 (by decide) (by exact ⟨by omega, by omega⟩) (fun c_12 => ?_) (fun c_12 => ?_)
      · refine wa_iconst dX9_ruleSentence_19 ?_
        refine wa_istore_n dX9_ruleSentence_20 (by decide) ?_
        refine wa_iload_n dX9_ruleSentence_21 rfl ?_
        refine wa_if_ne 46 dX9_ruleSentence_22 (by decide) (by exact ⟨by omega, by omega⟩) (fun c_22 => ?_) (fun c_22 => ?_)
        · refine wa_iconst dX9_ruleSentence_46 ?_
          refine wa_zreturn dX9_ruleSentence_47 rfl (by first | exact Or.inl rfl | exact Or.inr rfl) ?_
          exact fin
        · refine wa_aload_n dX9_ruleSentence_25 rfl ?_
          refine wt_getR dX9_ruleSentence_26 FX9_40 (by assumption) (by assumption) ?_
          refine wt_getI dX9_ruleSentence_29 FX9_82 (by assumption) ?_
          try first | rw [hlf] | rw [hnr]
          refine wa_bipush dX9_ruleSentence_32 rfl ?_
          refine wa_icmp_ge 46 dX9_ruleSentence_34 (by decide) (by exact ⟨by omega, by omega⟩) (by exact ⟨by omega, by omega⟩) (fun c_34 => ?_) (fun c_34 => ?_)
          · refine wa_iconst dX9_ruleSentence_46 ?_
            refine wa_zreturn dX9_ruleSentence_47 rfl (by first | exact Or.inl rfl | exact Or.inr rfl) ?_
            exact fin
          · exfalso; omega
      · refine wa_iconst dX9_ruleSentence_15 ?_
        refine wa_goto 20 dX9_ruleSentence_16 (by decide) ?_
        refine wa_istore_n dX9_ruleSentence_20 (by decide) ?_
        refine wa_iload_n dX9_ruleSentence_21 rfl ?_
        refine wa_if_ne 46 dX9_ruleSentence_22 (by decide) (by exact ⟨by omega, by omega⟩) (fun c_22 => ?_) (fun c_22 => ?_)
        · refine wa_iconst dX9_ruleSentence_46 ?_
          refine wa_zreturn dX9_ruleSentence_47 rfl (by first | exact Or.inl rfl | exact Or.inr rfl) ?_
          exact fin
        · refine wa_aload_n dX9_ruleSentence_25 rfl ?_
          refine wt_getR dX9_ruleSentence_26 FX9_40 (by assumption) (by assumption) ?_
          refine wt_getI dX9_ruleSentence_29 FX9_82 (by assumption) ?_
          try first | rw [hlf] | rw [hnr]
          refine wa_bipush dX9_ruleSentence_32 rfl ?_
          refine wa_icmp_ge 46 dX9_ruleSentence_34 (by decide) (by exact ⟨by omega, by omega⟩) (by exact ⟨by omega, by omega⟩) (fun c_34 => ?_) (fun c_34 => ?_)
          · refine wa_iconst dX9_ruleSentence_46 ?_
            refine wa_zreturn dX9_ruleSentence_47 rfl (by first | exact Or.inl rfl | exact Or.inr rfl) ?_
            exact fin
          · exfalso; omega
  · have htk := c_take (I := I) (L := L) hL hn hn1 z3 i1 62 ⟨by decide, by decide⟩
    have hb := tkP_b (b := I 156) i1 (c := 62) (by decide)
    obtain ⟨w1, w2⟩ := atP_ZH hz (tkP (I 156) n Z.2.2.2.2.2.2.2 62)
    generalize hJ : atP I (tkP (I 156) n Z.2.2.2.2.2.2.2 62) = J at htk w1 w2
    have j156 : J 156 = I 156 := w2.1 156 (by decide) (by decide) (by decide) (by decide) (by decide) (by decide) (by decide) (by decide)
    have rest : ∀ x : Option tmV, tmW kX9_ruleSentence 7 bc bs 37 [some (tR 155), some (tI m), x] [] (S, I, L) Q := by
      intro x
      by_cases ht : tkB (I 156) n Z.2.2.2.2.2.2.2 62
      · rw [if_pos ht] at htk
        have hrs := c_readSide (L := L) hL hn1 m hm (by rw [w2.2.1 1 (by decide) (by decide)]; exact hn) w1 ⟨hb.2.1, by show Z.1 + 0 ≤ tkP (I 156) n Z.2.2.2.2.2.2.2 62; omega, fun k hk => by omega⟩
        rw [j156] at hrs
        have hinv := rdZ_inv (b := I 156) (may := m) 121 0 (zTo Z (tkP (I 156) n Z.2.2.2.2.2.2.2 62)) ⟨hb.2.1, by show Z.1 + 0 ≤ tkP (I 156) n Z.2.2.2.2.2.2.2 62; omega, fun k hk => by omega⟩
        have hro : rsO (I 156) n nr m Z = (if (rdS (I 156) n m (zTo Z (tkP (I 156) n Z.2.2.2.2.2.2.2 62))).1 = true then (decide (tkB (I 156) n (rdS (I 156) n m (zTo Z (tkP (I 156) n Z.2.2.2.2.2.2.2 62))).2.2.2.2.2.2.2.2.2 59), zTo (rdS (I 156) n m (zTo Z (tkP (I 156) n Z.2.2.2.2.2.2.2 62))).2.2 (tkP (I 156) n (rdS (I 156) n m (zTo Z (tkP (I 156) n Z.2.2.2.2.2.2.2 62))).2.2.2.2.2.2.2.2.2 59)) else (false, (rdS (I 156) n m (zTo Z (tkP (I 156) n Z.2.2.2.2.2.2.2 62))).2.2)) := by
          unfold rsO; rw [if_neg hA, if_pos ht]
        rw [hro] at hfail hgo
        have hinv' : ZI n (rdS (I 156) n m (zTo Z (tkP (I 156) n Z.2.2.2.2.2.2.2 62))).2.1 (rdS (I 156) n m (zTo Z (tkP (I 156) n Z.2.2.2.2.2.2.2 62))).2.2 := hinv
        generalize rdS (I 156) n m (zTo Z (tkP (I 156) n Z.2.2.2.2.2.2.2 62)) = r0 at hrs hfail hgo hinv'
        have at53 : ∀ V : Nat → Nat → Int, TxFr I V → ZH V r0.2.1 r0.2.2 → tmW kX9_ruleSentence 7 bc bs 53 [some (tR 155), some (tI m), x] [tI (if r0.1 = true then 1 else 0)] (S, V, L) Q := by
          intro V fV hzV
          cases h1 : r0.1 with
          | false =>
            rw [h1, if_neg (by decide)] at hfail
            rw [if_neg (by decide)]
            have fin := hfail rfl V r0.2.1 fV hzV
            refine wa_if_eq 65 dX9_ruleSentence_53 (by decide) (by exact ⟨by omega, by omega⟩) (fun c_53 => ?_) (fun c_53 => ?_)
            · refine wa_iconst dX9_ruleSentence_65 ?_
              refine wa_zreturn dX9_ruleSentence_66 rfl (by first | exact Or.inl rfl | exact Or.inr rfl) ?_
              exact fin
            · omega
          | true =>
            rw [h1, if_pos rfl] at hfail hgo
            rw [if_pos rfl]
            have v156 : V 156 = I 156 := fV.1 156 (by decide) (by decide) (by decide) (by decide) (by decide) (by decide) (by decide) (by decide)
            have ht2 := c_take (I := V) (L := L) hL (by rw [fV.2.1 1 (by decide) (by decide)]; exact hn) hn1 hzV.2.2.1 hinv'.1 59 ⟨by decide, by decide⟩
            rw [v156] at ht2
            obtain ⟨y1, y2⟩ := atP_ZH hzV (tkP (I 156) n r0.2.2.2.2.2.2.2.2.2 59)
            generalize hK : atP V (tkP (I 156) n r0.2.2.2.2.2.2.2.2.2 59) = K at ht2 y1 y2
            by_cases hs : tkB (I 156) n r0.2.2.2.2.2.2.2.2.2 59
            · rw [if_pos hs] at ht2
              have fin := hgo (by simpa using hs) K r0.2.1 x (fV.trans y2) y1
              refine wa_if_eq 65 dX9_ruleSentence_53 (by decide) (by exact ⟨by omega, by omega⟩) (fun c_53 => ?_) (fun c_53 => ?_)
              · omega
              · refine wa_aload_n dX9_ruleSentence_56 rfl ?_
                refine wa_bipush dX9_ruleSentence_57 rfl ?_
                refine wa_callVf (ci := 9) dX9_ruleSentence_59 KX9_take LX9_76 ⟨_, _, rfl, by decide⟩ o155 (ht2) (by decide) rfl rfl (Nat.le_of_ble_eq_true rfl) rfl rfl ?_
                refine wa_if_ne 67 dX9_ruleSentence_62 (by decide) (by exact ⟨by omega, by omega⟩) (fun c_62 => ?_) (fun c_62 => ?_)
                · exact fin
                · omega
            · rw [if_neg hs] at ht2
              have fin := hfail (by simpa using hs) K r0.2.1 (fV.trans y2) y1
              refine wa_if_eq 65 dX9_ruleSentence_53 (by decide) (by exact ⟨by omega, by omega⟩) (fun c_53 => ?_) (fun c_53 => ?_)
              · omega
              · refine wa_aload_n dX9_ruleSentence_56 rfl ?_
                refine wa_bipush dX9_ruleSentence_57 rfl ?_
                refine wa_callVf (ci := 9) dX9_ruleSentence_59 KX9_take LX9_76 ⟨_, _, rfl, by decide⟩ o155 (ht2) (by decide) rfl rfl (Nat.le_of_ble_eq_true rfl) rfl rfl ?_
                refine wa_if_ne 67 dX9_ruleSentence_62 (by decide) (by exact ⟨by omega, by omega⟩) (fun c_62 => ?_) (fun c_62 => ?_)
                · omega
                · refine wa_iconst dX9_ruleSentence_65 ?_
                  refine wa_zreturn dX9_ruleSentence_66 rfl (by first | exact Or.inl rfl | exact Or.inr rfl) ?_
                  exact fin
        refine wa_aload_n dX9_ruleSentence_37 rfl ?_
        refine wa_bipush dX9_ruleSentence_38 rfl ?_
        refine wa_callVf (ci := 9) dX9_ruleSentence_40 KX9_take LX9_76 ⟨_, _, rfl, by decide⟩ o155 (htk) (by decide) rfl rfl (Nat.le_of_ble_eq_true rfl) rfl rfl ?_
        refine wa_if_ne 48 dX9_ruleSentence_43 (by decide) (by exact ⟨by omega, by omega⟩) (fun c_43 => ?_) (fun c_43 => ?_)
        · refine wa_aload_n dX9_ruleSentence_48 rfl ?_
          refine wa_iload_n dX9_ruleSentence_49 rfl ?_
          refine wa_callV (ci := 9) dX9_ruleSentence_50 KX9_readSide LX9_59 ⟨_, _, rfl, by decide⟩ o155 (hrs) (by decide) rfl (Nat.le_of_ble_eq_true rfl) rfl rfl (fun r h' hq => ?_)
          obtain ⟨V, rfl, rfl, fV, hzV⟩ := hq
          exact at53 V (w2.trans fV) hzV
        · omega
      · rw [if_neg ht] at htk
        have hro : rsO (I 156) n nr m Z = (false, zTo Z (tkP (I 156) n Z.2.2.2.2.2.2.2 62)) := by unfold rsO; rw [if_neg hA, if_neg ht]
        rw [hro] at hfail
        have fin := hfail rfl J dp w2 w1
        refine wa_aload_n dX9_ruleSentence_37 rfl ?_
        refine wa_bipush dX9_ruleSentence_38 rfl ?_
        refine wa_callVf (ci := 9) dX9_ruleSentence_40 KX9_take LX9_76 ⟨_, _, rfl, by decide⟩ o155 (htk) (by decide) rfl rfl (Nat.le_of_ble_eq_true rfl) rfl rfl ?_
        refine wa_if_ne 48 dX9_ruleSentence_43 (by decide) (by exact ⟨by omega, by omega⟩) (fun c_43 => ?_) (fun c_43 => ?_)
        · omega
        · refine wa_iconst dX9_ruleSentence_46 ?_
          refine wa_zreturn dX9_ruleSentence_47 rfl (by first | exact Or.inl rfl | exact Or.inr rfl) ?_
          exact fin
    refine wa_aload_n dX9_ruleSentence_0 rfl ?_
    refine wt_getR dX9_ruleSentence_1 FX9_24 (by assumption) (by assumption) ?_
    refine wt_getI dX9_ruleSentence_4 FX9_66 (by assumption) ?_
    try first | rw [hlf] | rw [hnr]
    refine wa_iconst dX9_ruleSentence_7 ?_
    refine wa_icmp_ne 19 dX9_ruleSentence_8 (by decide) (by exact ⟨by omega, by omega⟩) (by exact ⟨by omega, by omega⟩) (fun c_8 => ?_) (fun c_8 => ?_)
    · refine wa_iconst dX9_ruleSentence_19 ?_
      refine wa_istore_n dX9_ruleSentence_20 (by decide) ?_
      refine wa_iload_n dX9_ruleSentence_21 rfl ?_
      refine wa_if_ne 46 dX9_ruleSentence_22 (by decide) (by exact ⟨by omega, by omega⟩) (fun c_22 => ?_) (fun c_22 => ?_)
      · refine wa_iconst dX9_ruleSentence_46 ?_
        refine wa_zreturn dX9_ruleSentence_47 rfl (by first | exact Or.inl rfl | exact Or.inr rfl) ?_
        exfalso; omega
      · refine wa_aload_n dX9_ruleSentence_25 rfl ?_
        refine wt_getR dX9_ruleSentence_26 FX9_40 (by assumption) (by assumption) ?_
        refine wt_getI dX9_ruleSentence_29 FX9_82 (by assumption) ?_
        try first | rw [hlf] | rw [hnr]
        refine wa_bipush dX9_ruleSentence_32 rfl ?_
        refine wa_icmp_ge 46 dX9_ruleSentence_34 (by decide) (by exact ⟨by omega, by omega⟩) (by exact ⟨by omega, by omega⟩) (fun c_34 => ?_) (fun c_34 => ?_)
        · refine wa_iconst dX9_ruleSentence_46 ?_
          refine wa_zreturn dX9_ruleSentence_47 rfl (by first | exact Or.inl rfl | exact Or.inr rfl) ?_
          exfalso; omega
        · exact rest _
    · refine wa_iload_n dX9_ruleSentence_11 rfl ?_
      refine wa_if_eq 19 dX9_ruleSentence_12 (by decide) (by exact ⟨by omega, by omega⟩) (fun c_12 => ?_) (fun c_12 => ?_)
      · refine wa_iconst dX9_ruleSentence_19 ?_
        refine wa_istore_n dX9_ruleSentence_20 (by decide) ?_
        refine wa_iload_n dX9_ruleSentence_21 rfl ?_
        refine wa_if_ne 46 dX9_ruleSentence_22 (by decide) (by exact ⟨by omega, by omega⟩) (fun c_22 => ?_) (fun c_22 => ?_)
        · refine wa_iconst dX9_ruleSentence_46 ?_
          refine wa_zreturn dX9_ruleSentence_47 rfl (by first | exact Or.inl rfl | exact Or.inr rfl) ?_
          exfalso; omega
        · refine wa_aload_n dX9_ruleSentence_25 rfl ?_
          refine wt_getR dX9_ruleSentence_26 FX9_40 (by assumption) (by assumption) ?_
          refine wt_getI dX9_ruleSentence_29 FX9_82 (by assumption) ?_
          try first | rw [hlf] | rw [hnr]
          refine wa_bipush dX9_ruleSentence_32 rfl ?_
          refine wa_icmp_ge 46 dX9_ruleSentence_34 (by decide) (by exact ⟨by omega, by omega⟩) (by exact ⟨by omega, by omega⟩) (fun c_34 => ?_) (fun c_34 => ?_)
          · refine wa_iconst dX9_ruleSentence_46 ?_
            refine wa_zreturn dX9_ruleSentence_47 rfl (by first | exact Or.inl rfl | exact Or.inr rfl) ?_
            exfalso; omega
          · exact rest _
      · refine wa_iconst dX9_ruleSentence_15 ?_
        refine wa_goto 20 dX9_ruleSentence_16 (by decide) ?_
        refine wa_istore_n dX9_ruleSentence_20 (by decide) ?_
        refine wa_iload_n dX9_ruleSentence_21 rfl ?_
        refine wa_if_ne 46 dX9_ruleSentence_22 (by decide) (by exact ⟨by omega, by omega⟩) (fun c_22 => ?_) (fun c_22 => ?_)
        · refine wa_iconst dX9_ruleSentence_46 ?_
          refine wa_zreturn dX9_ruleSentence_47 rfl (by first | exact Or.inl rfl | exact Or.inr rfl) ?_
          exfalso; omega
        · refine wa_aload_n dX9_ruleSentence_25 rfl ?_
          refine wt_getR dX9_ruleSentence_26 FX9_40 (by assumption) (by assumption) ?_
          refine wt_getI dX9_ruleSentence_29 FX9_82 (by assumption) ?_
          try first | rw [hlf] | rw [hnr]
          refine wa_bipush dX9_ruleSentence_32 rfl ?_
          refine wa_icmp_ge 46 dX9_ruleSentence_34 (by decide) (by exact ⟨by omega, by omega⟩) (by exact ⟨by omega, by omega⟩) (fun c_34 => ?_) (fun c_34 => ?_)
          · refine wa_iconst dX9_ruleSentence_46 ?_
            refine wa_zreturn dX9_ruleSentence_47 rfl (by first | exact Or.inl rfl | exact Or.inr rfl) ?_
            exfalso; omega
          · exact rest _
end S56
