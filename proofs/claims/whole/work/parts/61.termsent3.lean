/-! ===== 61: Text.termSentence, whole ===== -/
theorem tmLet_no {sg : Nat → Int} {sz : Nat} (h9 : ∀ i, i < sz → 0 ≤ sg i ∧ sg i ≤ 9) (h : tmLet sg sz 0 0 = 0) : ∀ i, i < sz → sg i < 7 := by
  intro i hi
  by_cases z : sg i < 7
  · exact z
  · exfalso
    have := h9 i hi
    have hb := (tmLet_bit (sg := sg) (l := (sg i - 7).toNat) (by omega) sz 0 0 (fun j _ j2 => (h9 j (by omega)).2)).mpr (Or.inr ⟨i, by omega, by omega, by omega⟩)
    rw [h] at hb
    simp at hb
section S61
variable {S : tmS} {I : Nat → Nat → Int} {L : Nat → Nat → Int64}
/-- the TERMS of a sentence come; none: no room -/
abbrev tsB (I : Nat → Nat → Int) (n sz : Nat) : Option (TS × (Nat → Int)) := bdF (I 158) (I 159) (I 160) (I 141) 0 sz 0 (tsOf I n) (I 142)
abbrev TsPost (S : tmS) (I : Nat → Nat → Int) (L : Nat → Nat → Int64) (n nb sz lf p : Nat) : Option tmV → tmH → Prop := fun q h' => ∃ I', h' = (S, I', L) ∧ (∀ a, 8 ≤ a → a ≠ 142 → a ≠ 155 → I' a = I a) ∧ I' 0 = I 0 ∧ I' 1 = I 1 ∧ (∀ k, k ≠ 8 → I' 155 k = I 155 k) ∧
  ((q = some (tI 0) ∧ I' 155 8 = (skp (I 156) nb p : Int) ∧ ¬ (byt (I 156) nb (skp (I 156) nb p) = 59 ∧ tmLet (I 158) sz 0 0 = 0 ∧ tsB I n sz ≠ none)) ∨
   (q = some (tI 1) ∧ I' 155 8 = ((skp (I 156) nb p + 1 : Nat) : Int) ∧ byt (I 156) nb (skp (I 156) nb p) = 59 ∧ tmLet (I 158) sz 0 0 = 0 ∧ ∃ X md, tsB I n sz = some (X, md) ∧ I' 2 0 = (X.1 : Int) ∧ I' 3 = X.2.1 ∧ I' 4 = X.2.2.1 ∧ I' 5 = X.2.2.2.1 ∧ I' 6 = gzR md sz X.2.2.2.2.1 ∧ I' 7 = tmJn X.1 X.2.2.2.2.2 (X.2.2.2.2.2 (md (lf - 1)).toNat) (X.2.2.2.2.2 (md (sz - 1)).toNat)))
theorem skp_idem {b : Nat → Int} {n p : Nat} (h : p ≤ n) (hb : byt b n (skp b n p) = 59) : skp b n (skp b n p) = skp b n p := by
  by_cases z : skp b n p < n
  · refine skp_no z ?_
    unfold byt at hb; rw [if_pos z] at hb; omega
  · exact skp_end (by omega)
set_option maxRecDepth 20000 in
set_option maxHeartbeats 2000000 in
theorem c_termSentence (hL : LX S) {n nb sz lf p : Nat} (hn : I 2 0 = (n : Int)) (hX : TsOK (tsOf I n)) (hsz : I 157 0 = (sz : Int)) (hlf : I 157 1 = (lf : Int)) (h1 : 1 ≤ lf) (h2 : lf ≤ sz) (hsm : sz ≤ 120) (hw : WFN sz (I 158) (I 159) (I 160)) (hnb : I 155 1 = (nb : Int)) (hnb1 : nb ≤ 120) (hp : I 155 8 = (p : Int)) (hpn : p ≤ nb) :
    tmC yX9_termSentence kX9_termSentence 7 0 0 [tR 155] (S, I, L) (TsPost S I L n nb sz lf p) := by
  refine tmC.mk (lv := [some (tR 155), none, none, none]) 3 ⟨rfl, by decide +kernel, by decide⟩ rfl rfl ?_
  have o155 := oX155 hL
  have r155_0 := rX155_0 hL
  have r155_2 := rX155_2 hL
  have r155_3 := rX155_3 hL
  have r155_4 := rX155_4 hL
  have r155_5 := rX155_5 hL
  have r155_6 := rX155_6 hL
  have o157 := oX157 hL
  have r157_2 := rX157_2 hL
  have r157_3 := rX157_3 hL
  have r157_4 := rX157_4 hL
  have r157_5 := rX157_5 hL
  have o158 := oX158 hL
  have o159 := oX159 hL
  have o160 := oX160 hL
  have o161 := oX161 hL
  have o140 := oX140 hL
  have r140_0 := rX140_0 hL
  have r140_1 := rX140_1 hL
  have r140_2 := rX140_2 hL
  have o142 := oX142 hL
  have o2 := oX2 hL
  have r2_1 := rX2_1 hL
  have r2_2 := rX2_2 hL
  have r2_3 := rX2_3 hL
  have r2_4 := rX2_4 hL
  have r2_5 := rX2_5 hL
  have o1 := oX1 hL
  have r1_0 := rX1_0 hL
  have r1_1 := rX1_1 hL
  have r1_3 := rX1_3 hL
  have hpat : LPat S 157 120 := ⟨o157, r157_2, r157_3, r157_4, r157_5, o158, o159, o160, o161⟩
  refine wt_ir (fun hI => ?_)
  have hpk := c_peek (I := I) (L := L) hL hnb hnb1 hp hpn
  have hsk := skp_b (b := I 156) hpn
  have hbr : inR (byt (I 156) nb (skp (I 156) nb p)) := by
    unfold byt; split
    · exact hI _ _
    · exact ⟨by decide, by decide⟩
  generalize hJ : atP I (skp (I 156) nb p) = J at hpk
  have gJ : ∀ a, a ≠ 155 → J a = I a := fun a ha => by rw [← hJ]; exact vup_n ha
  have j8 : J 155 8 = (skp (I 156) nb p : Int) := by rw [← hJ]; unfold atP; rw [vup_s, vup_s]
  have jk : ∀ k, k ≠ 8 → J 155 k = I 155 k := fun k hk => by rw [← hJ]; unfold atP; rw [vup_s, vup_n hk]
  have hsg9 : ∀ i, i < sz → 0 ≤ I 158 i ∧ I 158 i ≤ 9 := fun i hi => ⟨(hw i hi).1, (hw i hi).2.1⟩
  have hlet := c_lettersIn (I := J) (L := L) hpat (sz := sz) (by rw [gJ 157 (by decide)]; exact hsz) hsm (Nat.le_refl _) 0 sz (by omega) (Nat.le_refl _) (by rw [gJ 158 (by decide)]; exact hsg9)
  rw [gJ 158 (by decide), Nat.sub_zero] at hlet
  have hl8 := tmLet_lt (sg := I 158) sz 0 0 (fun j _ j2 => (hsg9 j (by omega)).2) (by decide)
  have jsz : J 157 0 = (sz : Int) := by rw [gJ 157 (by decide)]; exact hsz
  have fail : ∀ (V : Nat → Nat → Int), (∀ a, 8 ≤ a → a ≠ 142 → V a = J a) → V 0 = I 0 → V 1 = I 1 → ¬ (byt (I 156) nb (skp (I 156) nb p) = 59 ∧ tmLet (I 158) sz 0 0 = 0 ∧ tsB I n sz ≠ none) → TsPost S I L n nb sz lf p (some (tI 0)) (S, V, L) := fun V h1 h2 h3 h4 =>
    ⟨V, rfl, fun a a1 a2 a3 => by rw [h1 a a1 a2]; exact gJ a a3, h2, h3, fun k hk => by rw [h1 155 (by decide) (by decide)]; exact jk k hk, Or.inl ⟨rfl, by rw [h1 155 (by decide) (by decide)]; exact j8, h4⟩⟩
  by_cases hb : byt (I 156) nb (skp (I 156) nb p) = 59
  · by_cases hl0 : tmLet (I 158) sz 0 0 = 0
    · have hno := tmLet_no hsg9 hl0
      have hbd := c_build (I := J) (L := L) hL hpat (by decide) jsz hsm (Nat.le_refl _) (by rw [gJ 158 (by decide), gJ 159 (by decide), gJ 160 (by decide)]; exact hw) 0 sz n (Nat.le_refl _) (by omega) 0 ⟨by decide, by decide⟩ (by rw [gJ 2 (by decide)]; exact hn) hX.1 (fun i _ i2 i3 => by rw [gJ 158 (by decide)] at i3; have := hno i i2; omega)
      have ets : tsOf J n = tsOf I n := by simp only [tsOf, gJ 3 (by decide), gJ 4 (by decide), gJ 5 (by decide), gJ 6 (by decide), gJ 7 (by decide)]
      rw [gJ 158 (by decide), gJ 159 (by decide), gJ 160 (by decide), gJ 141 (by decide), gJ 142 (by decide), Nat.sub_zero, ets] at hbd
      have hok := bdF_ok (lt := I 141) (g := 0) (fr := 0) hw hsm (fun i _ _ => ⟨fun z => z, fun z => z⟩) ⟨by decide, by decide⟩ sz 0 (tsOf I n) (I 142)
      generalize hres : bdF (I 158) (I 159) (I 160) (I 141) 0 sz 0 (tsOf I n) (I 142) = res at hbd hok
      cases res with
      | none =>
        refine wa_aload_n dX9_termSentence_0 rfl ?_
        refine wa_callVf (ci := 9) dX9_termSentence_1 KX9_peek LX9_48 ⟨_, _, rfl, by decide⟩ o155 (hpk) (by decide) rfl rfl (Nat.le_of_ble_eq_true rfl) rfl rfl ?_
        refine wa_bipush dX9_termSentence_4 rfl ?_
        refine wa_icmp_ne 27 dX9_termSentence_6 (by decide) (by first | exact hbr | exact ⟨by omega, by omega⟩) (by first | exact hbr | exact ⟨by omega, by omega⟩) (fun c_6 => ?_) (fun c_6 => ?_)
        · exact absurd hb c_6
        · refine wa_aload_n dX9_termSentence_9 rfl ?_
          refine wt_getR dX9_termSentence_10 FX9_24 (by assumption) (by assumption) ?_
          refine wa_iconst dX9_termSentence_13 ?_
          refine wa_aload_n dX9_termSentence_14 rfl ?_
          refine wt_getR dX9_termSentence_15 FX9_24 (by assumption) (by assumption) ?_
          refine wt_getI dX9_termSentence_18 FX9_63 (by assumption) ?_
          try first | rw [jsz] | skip
          refine wa_callVf (ci := 2) dX9_termSentence_21 KX2_lettersIn LX9_69 ⟨_, _, rfl, by decide⟩ o157 (hlet) (by decide) rfl rfl (Nat.le_of_ble_eq_true rfl) rfl rfl ?_
          refine wa_if_eq 29 dX9_termSentence_24 (by decide) (by first | exact hbr | exact ⟨by omega, by omega⟩) (fun c_24 => ?_) (fun c_24 => ?_)
          · refine wa_aload_n dX9_termSentence_29 rfl ?_
            refine wt_getR dX9_termSentence_30 FX9_44 (by assumption) (by assumption) ?_
            refine wa_aload_n dX9_termSentence_33 rfl ?_
            refine wt_getR dX9_termSentence_34 FX9_24 (by assumption) (by assumption) ?_
            refine wa_iconst dX9_termSentence_37 ?_
            refine wa_aload_n dX9_termSentence_38 rfl ?_
            refine wt_getR dX9_termSentence_39 FX9_24 (by assumption) (by assumption) ?_
            refine wt_getI dX9_termSentence_42 FX9_63 (by assumption) ?_
            try first | rw [jsz] | skip
            refine wa_iconst dX9_termSentence_45 ?_
            refine wa_callV (ci := 0) dX9_termSentence_46 KX0_build LX9_95 ⟨_, _, rfl, by decide⟩ o140 (hbd) (by decide) rfl (Nat.le_of_ble_eq_true rfl) rfl rfl (fun r h' hq => ?_)
            obtain ⟨V, rfl, hf, rfl, v2, v3⟩ := hq
            have fin := fail V (fun a a1 a2 => hf a (by omega) (by omega) (by omega) (by omega) (by omega) (by omega) a2) (by rw [hf 0 (by decide) (by decide) (by decide) (by decide) (by decide) (by decide) (by decide)]; exact gJ 0 (by decide)) (by rw [hf 1 (by decide) (by decide) (by decide) (by decide) (by decide) (by decide) (by decide)]; exact gJ 1 (by decide)) (fun z => z.2.2 hres)
            refine wa_iconst dX9_termSentence_49 ?_
            refine wa_icmp_ne 55 dX9_termSentence_50 (by decide) (by first | exact hbr | exact ⟨by omega, by omega⟩) (by first | exact hbr | exact ⟨by omega, by omega⟩) (fun c_50 => ?_) (fun c_50 => ?_)
            · omega
            · refine wa_iconst dX9_termSentence_53 ?_
              refine wa_zreturn dX9_termSentence_54 rfl (by first | exact Or.inl rfl | exact Or.inr rfl) ?_
              exact fin
          · omega
      | some Xm =>
        obtain ⟨X, md⟩ := Xm
        obtain ⟨w1, w2, w3⟩ := hok X md (by omega) (Nat.le_refl _) rfl hX (fun j _ b => by omega) (fun j _ b c => by have := hno j (by omega); omega)
        have wl := w3 (sz - 1) (by omega) (by omega)
        have w50 := w1.1
        have at65 : ∀ V : Nat → Nat → Int, BdFr J V → V 2 0 = (X.1 : Int) → tsOf V X.1 = X → V 142 = md → ∀ y : Option tmV, tmW kX9_termSentence 7 0 0 65 [some (tR 155), some (tR 2), some (tI ((0 : Nat) : Int)), y] [] (S, V, L) (TsPost S I L n nb sz lf p) := by
          intro V hf v2 v3 v4 y
          have fV : ∀ a, 8 ≤ a → a ≠ 142 → V a = J a := fun a a1 a2 => hf a (by omega) (by omega) (by omega) (by omega) (by omega) (by omega) a2
          have y3 : V 3 = X.2.1 := by rw [← v3]
          have y4 : V 4 = X.2.2.1 := by rw [← v3]
          have y5 : V 5 = X.2.2.2.1 := by rw [← v3]
          have y6 : V 6 = X.2.2.2.2.1 := by rw [← v3]
          have y7 : V 7 = X.2.2.2.2.2 := by rw [← v3]
          have hmd : ∀ i, i < sz → 0 ≤ V 142 i ∧ V 142 i < (X.1 : Nat) := fun i hi => by rw [v4]; exact w3 i (by omega) (by omega)
          have hgz := gz_loop (I := V) (L := L) hL v2 w50 (by rw [fV 157 (by decide) (by decide)]; exact jsz) hsm hmd (TsPost S I L n nb sz lf p) (fun xx yy => by
            generalize hU : va_up V 6 (gzR (V 142) sz (V 6)) = U
            have gU : ∀ a, a ≠ 6 → U a = V a := fun a ha => by rw [← hU]; exact vup_n ha
            have u6 : U 6 = gzR (V 142) sz (V 6) := by rw [← hU, vup_s]
            have htl := ts_tail (I := U) (L := L) hL (n := X.1) (nb := nb) (sz := sz) (lf := lf) (p := skp (I 156) nb p) (by rw [gU 2 (by decide)]; exact v2) w50 (by rw [gU 7 (by decide), y7]; exact w1.2.2.1) (by rw [gU 157 (by decide), fV 157 (by decide) (by decide)]; exact jsz) (by rw [gU 157 (by decide), fV 157 (by decide) (by decide), gJ 157 (by decide)]; exact hlf) h1 h2 hsm (by rw [gU 142 (by decide)]; exact hmd) (by rw [gU 155 (by decide), fV 155 (by decide) (by decide), jk 1 (by decide)]; exact hnb) hnb1 (by rw [gU 155 (by decide), fV 155 (by decide) (by decide)]; exact j8) hsk.2 xx yy
            have u156 : U 156 = I 156 := by rw [gU 156 (by decide), fV 156 (by decide) (by decide), gJ 156 (by decide)]
            have hid := skp_idem hpn hb
            have htb : tkB (I 156) nb (skp (I 156) nb p) 59 := by unfold tkB; rw [hid]; exact hb
            have htp : tkP (I 156) nb (skp (I 156) nb p) 59 = skp (I 156) nb p + 1 := by unfold tkP; rw [if_pos htb, hid]
            rw [u156, if_pos htb, htp, gU 7 (by decide), gU 142 (by decide), v4, y7] at htl
            refine htl.wk ?_
            rintro q h'' ⟨rfl, rfl⟩
            refine ⟨_, rfl, fun a a1 a2 a3 => ?_, ?_, ?_, fun k hk => ?_, Or.inr ⟨rfl, ?_, hb, hl0, X, md, hres, ?_, ?_, ?_, ?_, ?_, ?_⟩⟩
            · unfold atP; rw [vup_n a3, vup_n (by omega), gU a (by omega), fV a a1 a2]; exact gJ a a3
            · unfold atP; rw [vup_n (by decide), vup_n (by decide), gU 0 (by decide), hf 0 (by decide) (by decide) (by decide) (by decide) (by decide) (by decide) (by decide)]; exact gJ 0 (by decide)
            · unfold atP; rw [vup_n (by decide), vup_n (by decide), gU 1 (by decide), hf 1 (by decide) (by decide) (by decide) (by decide) (by decide) (by decide) (by decide)]; exact gJ 1 (by decide)
            · unfold atP; rw [vup_s, vup_n hk, vup_n (by decide), gU 155 (by decide), fV 155 (by decide) (by decide)]; exact jk k hk
            · unfold atP; rw [vup_s, vup_s]
            · unfold atP; rw [vup_n (by decide), vup_n (by decide), gU 2 (by decide)]; exact v2
            · unfold atP; rw [vup_n (by decide), vup_n (by decide), gU 3 (by decide)]; exact y3
            · unfold atP; rw [vup_n (by decide), vup_n (by decide), gU 4 (by decide)]; exact y4
            · unfold atP; rw [vup_n (by decide), vup_n (by decide), gU 5 (by decide)]; exact y5
            · unfold atP; rw [vup_n (by decide), vup_n (by decide), u6, v4, y6]
            · unfold atP; rw [vup_n (by decide), vup_s]) sz 0 y (by omega)
          rw [show gzR (V 142) 0 (V 6) = V 6 from rfl, vup_self] at hgz
          exact hgz
        refine wa_aload_n dX9_termSentence_0 rfl ?_
        refine wa_callVf (ci := 9) dX9_termSentence_1 KX9_peek LX9_48 ⟨_, _, rfl, by decide⟩ o155 (hpk) (by decide) rfl rfl (Nat.le_of_ble_eq_true rfl) rfl rfl ?_
        refine wa_bipush dX9_termSentence_4 rfl ?_
        refine wa_icmp_ne 27 dX9_termSentence_6 (by decide) (by first | exact hbr | exact ⟨by omega, by omega⟩) (by first | exact hbr | exact ⟨by omega, by omega⟩) (fun c_6 => ?_) (fun c_6 => ?_)
        · exact absurd hb c_6
        · refine wa_aload_n dX9_termSentence_9 rfl ?_
          refine wt_getR dX9_termSentence_10 FX9_24 (by assumption) (by assumption) ?_
          refine wa_iconst dX9_termSentence_13 ?_
          refine wa_aload_n dX9_termSentence_14 rfl ?_
          refine wt_getR dX9_termSentence_15 FX9_24 (by assumption) (by assumption) ?_
          refine wt_getI dX9_termSentence_18 FX9_63 (by assumption) ?_
          try first | rw [jsz] | skip
          refine wa_callVf (ci := 2) dX9_termSentence_21 KX2_lettersIn LX9_69 ⟨_, _, rfl, by decide⟩ o157 (hlet) (by decide) rfl rfl (Nat.le_of_ble_eq_true rfl) rfl rfl ?_
          refine wa_if_eq 29 dX9_termSentence_24 (by decide) (by first | exact hbr | exact ⟨by omega, by omega⟩) (fun c_24 => ?_) (fun c_24 => ?_)
          · refine wa_aload_n dX9_termSentence_29 rfl ?_
            refine wt_getR dX9_termSentence_30 FX9_44 (by assumption) (by assumption) ?_
            refine wa_aload_n dX9_termSentence_33 rfl ?_
            refine wt_getR dX9_termSentence_34 FX9_24 (by assumption) (by assumption) ?_
            refine wa_iconst dX9_termSentence_37 ?_
            refine wa_aload_n dX9_termSentence_38 rfl ?_
            refine wt_getR dX9_termSentence_39 FX9_24 (by assumption) (by assumption) ?_
            refine wt_getI dX9_termSentence_42 FX9_63 (by assumption) ?_
            try first | rw [jsz] | skip
            refine wa_iconst dX9_termSentence_45 ?_
            refine wa_callV (ci := 0) dX9_termSentence_46 KX0_build LX9_95 ⟨_, _, rfl, by decide⟩ o140 (hbd) (by decide) rfl (Nat.le_of_ble_eq_true rfl) rfl rfl (fun r h' hq => ?_)
            obtain ⟨V, rfl, hf, rfl, v2, v3, v4⟩ := hq
            refine wa_iconst dX9_termSentence_49 ?_
            refine wa_icmp_ne 55 dX9_termSentence_50 (by decide) (by first | exact hbr | exact ⟨by omega, by omega⟩) (by first | exact hbr | exact ⟨by omega, by omega⟩) (fun c_50 => ?_) (fun c_50 => ?_)
            · refine wa_aload_n dX9_termSentence_55 rfl ?_
              refine wt_getR dX9_termSentence_56 FX9_40 (by assumption) (by assumption) ?_
              refine wt_getR dX9_termSentence_59 FX9_101 (by assumption) (by assumption) ?_
              refine wa_astore_n dX9_termSentence_62 (by decide) ?_
              refine wa_iconst dX9_termSentence_63 ?_
              refine wa_istore_n dX9_termSentence_64 (by decide) ?_
              exact at65 V hf v2 v3 v4 _
            · omega
          · omega
    · have fin := fail J (fun _ _ _ => rfl) (gJ 0 (by decide)) (gJ 1 (by decide)) (fun z => hl0 z.2.1)
      refine wa_aload_n dX9_termSentence_0 rfl ?_
      refine wa_callVf (ci := 9) dX9_termSentence_1 KX9_peek LX9_48 ⟨_, _, rfl, by decide⟩ o155 (hpk) (by decide) rfl rfl (Nat.le_of_ble_eq_true rfl) rfl rfl ?_
      refine wa_bipush dX9_termSentence_4 rfl ?_
      refine wa_icmp_ne 27 dX9_termSentence_6 (by decide) (by first | exact hbr | exact ⟨by omega, by omega⟩) (by first | exact hbr | exact ⟨by omega, by omega⟩) (fun c_6 => ?_) (fun c_6 => ?_)
      · exact absurd hb c_6
      · refine wa_aload_n dX9_termSentence_9 rfl ?_
        refine wt_getR dX9_termSentence_10 FX9_24 (by assumption) (by assumption) ?_
        refine wa_iconst dX9_termSentence_13 ?_
        refine wa_aload_n dX9_termSentence_14 rfl ?_
        refine wt_getR dX9_termSentence_15 FX9_24 (by assumption) (by assumption) ?_
        refine wt_getI dX9_termSentence_18 FX9_63 (by assumption) ?_
        try first | rw [jsz] | skip
        refine wa_callVf (ci := 2) dX9_termSentence_21 KX2_lettersIn LX9_69 ⟨_, _, rfl, by decide⟩ o157 (hlet) (by decide) rfl rfl (Nat.le_of_ble_eq_true rfl) rfl rfl ?_
        refine wa_if_eq 29 dX9_termSentence_24 (by decide) (by first | exact hbr | exact ⟨by omega, by omega⟩) (fun c_24 => ?_) (fun c_24 => ?_)
        · omega
        · refine wa_iconst dX9_termSentence_27 ?_
          refine wa_zreturn dX9_termSentence_28 rfl (by first | exact Or.inl rfl | exact Or.inr rfl) ?_
          exact fin
  · have fin := fail J (fun _ _ _ => rfl) (gJ 0 (by decide)) (gJ 1 (by decide)) (fun z => hb z.1)
    refine wa_aload_n dX9_termSentence_0 rfl ?_
    refine wa_callVf (ci := 9) dX9_termSentence_1 KX9_peek LX9_48 ⟨_, _, rfl, by decide⟩ o155 (hpk) (by decide) rfl rfl (Nat.le_of_ble_eq_true rfl) rfl rfl ?_
    refine wa_bipush dX9_termSentence_4 rfl ?_
    refine wa_icmp_ne 27 dX9_termSentence_6 (by decide) (by first | exact hbr | exact ⟨by omega, by omega⟩) (by first | exact hbr | exact ⟨by omega, by omega⟩) (fun c_6 => ?_) (fun c_6 => ?_)
    · refine wa_iconst dX9_termSentence_27 ?_
      refine wa_zreturn dX9_termSentence_28 rfl (by first | exact Or.inl rfl | exact Or.inr rfl) ?_
      exact fin
    · exact absurd c_6 hb
end S61
