/-! ===== 32: Round.doOne ===== -/
/-- rows that a FINDING that is DONE changes -/
def DoFr (I I' : Nat → Nat → Int) : Prop := ∀ a, a ≠ 2 → a ≠ 3 → a ≠ 4 → a ≠ 5 → a ≠ 6 → a ≠ 7 → a ≠ 133 → a ≠ 134 → a ≠ 135 → a ≠ 141 → a ≠ 142 → a ≠ 154 → I' a = I a
theorem WFT.row {n : Nat} {sg on ot sg' on' ot' : Nat → Int} (h : WFT n sg on ot) (e : ∀ t, t < n → sg' t = sg t ∧ on' t = on t ∧ ot' t = ot t) : WFT n sg' on' ot' := fun t ht => by
  obtain ⟨e1, e2, e3⟩ := e t ht
  rw [e1, e2, e3]; exact h t ht
theorem HO.row {n : Nat} {h h' : Nat → Int} (hh : HO n h) (e : ∀ t, t < n → h' t = h t) : HO n h' := fun t ht => by
  have := hh t ht
  rw [e t ht, e _ (by omega)]
  exact this
theorem tmHome_row {n : Nat} {h h' : Nat → Int} (e : ∀ t, t < n → h' t = h t) (x : Int) : tmHome n h' x = tmHome n h x := by
  unfold tmHome; split
  · exact e _ (by omega)
  · rfl
theorem TabOK.row {n : Nat} {sg on ot h pl sg' on' ot' h' : Nat → Int} (hT : TabOK n sg on ot h pl) (e : ∀ t, t < n → sg' t = sg t ∧ on' t = on t ∧ ot' t = ot t ∧ h' t = h t) : TabOK n sg' on' ot' h' pl := by
  have ek : ∀ j, j < n → tKey n sg' on' ot' h' j = tKey n sg on ot h j := fun j hj => by
    obtain ⟨e1, e2, e3, -⟩ := e j hj
    simp only [tKey]
    rw [e1, e2, e3, tmHome_row (fun t ht => (e t ht).2.2.2), tmHome_row (fun t ht => (e t ht).2.2.2)]
  refine ⟨fun j hj => ?_, fun K hK hne => ?_⟩
  · rw [ek j hj, (e j hj).2.2.2]; exact hT.1 j hj
  · obtain ⟨j, a, b, c⟩ := hT.2 K hK hne
    exact ⟨j, a, by rw [ek j a]; exact b, by rw [(e j a).2.2.2]; exact c⟩
/-- a FINDING that is DONE leaves this: TERMS X1, CLASSES ho' -/
def DoneR (I I' : Nat → Nat → Int) (n : Nat) (X1 : TS) (t P : Nat) (u : Int) : Prop :=
  IsCl X1.1 X1.2.1 X1.2.2.1 X1.2.2.2.1 (tmJn X1.1 X1.2.2.2.2.2 (X1.2.2.2.2.2 t) (X1.2.2.2.2.2 P)) (I' 7) ∧ I' 2 0 = (X1.1 : Int) ∧ I' 3 = X1.2.1 ∧ I' 4 = X1.2.2.1 ∧ I' 5 = X1.2.2.2.1 ∧ I' 6 = X1.2.2.2.2.1 ∧ TabOK X1.1 X1.2.1 X1.2.2.1 X1.2.2.2.1 (I' 7) (I' 134) ∧
  u = (if n < X1.1 ∨ nCls n (I' 7) < nCls n (I 7) then 1 else 0) ∧ I' 154 0 = I 154 0 + 1 ∧ I' 154 1 = I 154 1 ∧ I' 154 2 = I 154 2 ∧ I' 154 3 = I 154 3 + ((X1.1 : Int) - n) ∧ I' 154 4 = I 154 4 + (if nCls n (I' 7) < nCls n (I 7) then 1 else 0)
section S32
variable {S : tmS} {I : Nat → Nat → Int} {L : Nat → Nat → Int64}
abbrev DoPost (S : tmS) (I : Nat → Nat → Int) (L : Nat → Nat → Int64) (n last : Nat) (P : Int) (res : Option (TS × (Nat → Int))) : Option tmV → tmH → Prop := fun r h' => ∃ I' u, r = some (tI u) ∧ h' = (S, I', L) ∧ DoFr I I' ∧ (∃ us, PlOK I' us) ∧
  match res with
  | none => u = 0 ∧ I' 2 0 = (n : Int) ∧ (∀ a, 3 ≤ a → a ≤ 7 → ∀ t, t < n → I' a t = I a t) ∧ I' 134 = I 134 ∧ I' 154 = va_up (I 154) 2 (I 154 2 + 1)
  | some (X, md) => DoneR I I' n X (md last).toNat P.toNat u
/-- nothing came, nothing is united: all stays -/
theorem done_same {n : Nat} {sg on ot ho : Nat → Int} (hh : HO n ho) (hc : HClosed n sg on ot ho) {a b : Int} (e : a = b) : IsCl n sg on ot (tmJn n ho a b) ho := by
  subst e
  rw [tmJn_same]
  exact ⟨Just.refl hh, hc⟩
set_option maxRecDepth 20000 in
set_option maxHeartbeats 4000000 in
theorem c_doOne (hL : LX S) {c k n nr us : Nat} (hfc : I 150 1 = (c : Int)) (hcm : c ≤ 1200) (hk : k < c) {rr : Nat} {x y z P g : Int} (he : Ent L 150 k rr x y z P g) (ht : TInv I n) (hpl : PlOK I us) (hP : 0 ≤ P ∧ P < n) (hg : 0 ≤ g ∧ g ≤ 9) (hnr : I 1 2 = (nr : Int)) (hnr6 : nr ≤ 6) (hrr : rr < nr) {p sz lf : Nat} (hp : S.2.2.2 8 rr = some p) (hw : RuleW S I p sz lf) (hro : RightOK I p sz lf n (ltOf n (I 7) x y z)) (hcnt : ∀ j, j < 5 → 0 ≤ I 154 j ∧ I 154 j ≤ 100000) :
    tmC yX3_doOne kX3_doOne 6 0 0 [tR 149, tI k] (S, I, L) (DoPost S I L n (sz - 1) P (bdF (I (p + 1)) (I (p + 2)) (I (p + 3)) (ltOf n (I 7) x y z) g (sz - lf) lf (tsOf I n) (I 142))) := by
  refine tmC.mk (lv := [some (tR 149), some (tI k), none, none, none, none, none, none, none]) 7 ⟨rfl, by decide +kernel, by decide⟩ rfl rfl ?_
  obtain ⟨hn, hn5, hwt, hh, htab, hge⟩ := id ht
  obtain ⟨q1, q2, q3, q4, q5, q6, q7, q8, q9, q10, q11⟩ := id hw
  obtain ⟨e1, d0, d1, d2, d3, d4, d5⟩ := id he
  refine wt_ir (fun hI => ?_)
  have o149 := oX149 hL
  have r149_0 := rX149_0 hL
  have r149_1 := rX149_1 hL
  have r149_2 := rX149_2 hL
  have r149_3 := rX149_3 hL
  have r149_4 := rX149_4 hL
  have r149_5 := rX149_5 hL
  have r149_6 := rX149_6 hL
  have r149_7 := rX149_7 hL
  have o1 := oX1 hL
  have r1_0 := rX1_0 hL
  have r1_1 := rX1_1 hL
  have r1_3 := rX1_3 hL
  have o2 := oX2 hL
  have r2_1 := rX2_1 hL
  have r2_2 := rX2_2 hL
  have r2_3 := rX2_3 hL
  have r2_4 := rX2_4 hL
  have r2_5 := rX2_5 hL
  have o150 := oX150 hL
  have r150_0 := rX150_0 hL
  have o151 := oX151 hL
  have o154 := oX154 hL
  have o133 := oX133 hL
  have r133_0 := rX133_0 hL
  have r133_1 := rX133_1 hL
  have r133_3 := rX133_3 hL
  have r133_5 := rX133_5 hL
  have r133_6 := rX133_6 hL
  have r133_7 := rX133_7 hL
  have hfin : LFin S 150 1200 := ⟨o150, r150_0, o151⟩
  have ncn : nCls n (I 7) ≤ n := nCls_le _ _
  have hX0 : TsOK (tsOf I n) := ⟨hn5, hwt, hh, hge⟩
  have hbr := c_buildRight (I := I) (L := L) hL hfin hfc hcm hk (Or.inr rfl) he hn hn5 hh hnr hnr6 hrr hp hw hro
  have ct0 := hcnt 0 (by decide); have ct1 := hcnt 1 (by decide); have ct2 := hcnt 2 (by decide); have ct3 := hcnt 3 (by decide); have ct4 := hcnt 4 (by decide)
  cases hres : bdF (I (p + 1)) (I (p + 2)) (I (p + 3)) (ltOf n (I 7) x y z) g (sz - lf) lf (tsOf I n) (I 142) with
  | none =>
    simp only [hres] at hbr
    refine wa_aload_n dX3_doOne_0 rfl ?_
    refine wt_getR dX3_doOne_1 FX3_30 (by assumption) (by assumption) ?_
    refine wt_getR dX3_doOne_4 FX3_103 (by assumption) (by assumption) ?_
    refine wa_astore_n dX3_doOne_7 (by decide) ?_
    refine wa_aload_n dX3_doOne_8 rfl ?_
    refine wt_getI dX3_doOne_9 FX3_107 (by assumption) ?_
    try try rw [hn]
    refine wa_istore_n dX3_doOne_12 (by decide) ?_
    refine wa_aload_n dX3_doOne_13 rfl ?_
    refine wa_iload_n dX3_doOne_14 rfl ?_
    refine wa_callVf (ci := 8) dX3_doOne_15 KX8_countClasses LX3_110 ⟨_, _, rfl, by decide⟩ o2 (c_countClasses hL hn hn5 n (Nat.le_refl _)) (by decide) rfl rfl (Nat.le_of_ble_eq_true rfl) rfl rfl ?_
    refine wa_istore dX3_doOne_18 (by decide) ?_
    refine wa_aload_n dX3_doOne_20 rfl ?_
    refine wa_aload_n dX3_doOne_21 rfl ?_
    refine wt_getR dX3_doOne_22 FX3_16 (by assumption) (by assumption) ?_
    refine wa_iload_n dX3_doOne_25 rfl ?_
    refine wa_callV (ci := 3) dX3_doOne_26 KX3_buildRight LX3_114 ⟨_, _, rfl, by decide⟩ o149 (hbr) (by decide) rfl (Nat.le_of_ble_eq_true rfl) rfl rfl (fun r h' hq => ?_)
    obtain ⟨I2, rfl, hb, rfl, h2, h3⟩ := hq
    have c154 := hb 154 (by decide) (by decide) (by decide) (by decide) (by decide) (by decide) (by decide) (by decide)
    refine wa_istore dX3_doOne_29 (by decide) ?_
    refine wa_iload dX3_doOne_31 rfl ?_
    refine wa_iconst dX3_doOne_33 ?_
    refine wa_icmp_ne 49 dX3_doOne_34 (by decide) (by exact ⟨by omega, by omega⟩) (by exact ⟨by omega, by omega⟩) (fun c_34 => ?_) (fun c_34 => ?_)
    · omega
    · refine wa_aload_n dX3_doOne_37 rfl ?_
      refine wt_getR dX3_doOne_38 FX3_27 (by assumption) (by assumption) ?_
      refine wa_iconst dX3_doOne_41 ?_
      refine wa_dup2 dX3_doOne_42 rfl rfl ?_
      refine wt_iald 2 dX3_doOne_43 (by assumption) rfl (by omega) ?_
      try try rw [hn]
      refine wa_iconst dX3_doOne_44 ?_
      refine wa_iadd dX3_doOne_45 ?_
      refine wt_iast 2 dX3_doOne_46 (by assumption) rfl (by omega) (by rw [c154]; exact ⟨by omega, by omega⟩) ?_
      refine wa_iconst dX3_doOne_47 ?_
      refine wa_zreturn dX3_doOne_48 rfl (by first | exact Or.inl rfl | exact Or.inr rfl) ?_
      refine ⟨_, 0, rfl, rfl, fun a a1 a2 a3 a4 a5 a6 a7 a8 a9 a10 a11 a12 => ?_, ⟨us, ?_⟩, rfl, ?_, fun a a1 a2 t ht' => ?_, ?_, ?_⟩
      · rw [vup_n a12]; exact hb a a1 a2 a3 a4 a5 a6 a10 a11
      · obtain ⟨w1, w2, w3, w4⟩ := hpl
        refine ⟨w1, ?_, ?_, ?_⟩
        · rw [vup_n (by decide), hb 133 (by decide) (by decide) (by decide) (by decide) (by decide) (by decide) (by decide) (by decide)]; exact w2
        · rw [vup_n (by decide), hb 135 (by decide) (by decide) (by decide) (by decide) (by decide) (by decide) (by decide) (by decide)]; exact w3
        · rw [vup_n (by decide), vup_n (by decide), hb 134 (by decide) (by decide) (by decide) (by decide) (by decide) (by decide) (by decide) (by decide), hb 135 (by decide) (by decide) (by decide) (by decide) (by decide) (by decide) (by decide) (by decide)]; exact w4
      · rw [vup_n (by decide)]; exact h2
      · rw [vup_n (by omega)]; exact h3 a a1 a2 t ht'
      · rw [vup_n (by decide)]; exact hb 134 (by decide) (by decide) (by decide) (by decide) (by decide) (by decide) (by decide) (by decide)
      · rw [vup_s, c154]
  | some Xm =>
    obtain ⟨X1, md⟩ := Xm
    simp only [hres] at hbr
    obtain ⟨ok1, ext1, md1⟩ := bdF_ok q8 q7 hro.1 hg (sz - lf) lf (tsOf I n) (I 142) X1 md (by omega) (Nat.le_refl _) hres hX0 (fun j a b => by omega) (fun j a b h7 => hro.2 j a (by omega) h7)
    obtain ⟨y1, y2, y3, y4⟩ := ok1
    have mdl := md1 (sz - 1) (by omega) (by omega)
    obtain ⟨t, ht'⟩ : ∃ t : Nat, md (sz - 1) = (t : Int) := ⟨(md (sz - 1)).toNat, by omega⟩
    obtain ⟨Pn, hPn⟩ : ∃ Pn : Nat, P = (Pn : Int) := ⟨P.toNat, by omega⟩
    have xn : n ≤ X1.1 := ext1.1
    -- behind buildRight
    have rest : ∀ I2 : Nat → Nat → Int, BrFr I I2 → I2 2 0 = (X1.1 : Int) → tsOf I2 X1.1 = X1 → tmW kX3_doOne 6 0 0 29 [some (tR 149), some (tI k), some (tR 2), some (tI n), some (tI ((nCls n (I 7) : Nat) : Int)), none, none, none, none] [tI (t : Int)] (S, I2, L) (DoPost S I L n (sz - 1) P (some (X1, md))) := by
      intro I2 hb h2 h3
      have hB : ∀ a, 8 ≤ a → a ≠ 141 → a ≠ 142 → I2 a = I a := fun a a1 a2 a3 => hb a (by omega) (by omega) (by omega) (by omega) (by omega) (by omega) a2 a3
      have c154 := hB 154 (by decide) (by decide) (by decide)
      have c150 := hB 150 (by decide) (by decide) (by decide)
      have s3 : I2 3 = X1.2.1 := by rw [← h3]
      have s4 : I2 4 = X1.2.2.1 := by rw [← h3]
      have s5 : I2 5 = X1.2.2.2.1 := by rw [← h3]
      have s6 : I2 6 = X1.2.2.2.2.1 := by rw [← h3]
      have s7 : I2 7 = X1.2.2.2.2.2 := by rw [← h3]
      have h7o : ∀ j, j < n → I2 7 j = I 7 j := fun j hj => by rw [s7]; exact (ext1.2 j hj).2.2.2.2
      generalize hJ : va_up I2 154 (va_up (I2 154) 0 (I2 154 0 + 1)) = J
      have gJ : ∀ a, a ≠ 154 → J a = I2 a := fun a ha => by rw [← hJ]; exact vup_n ha
      have j154 : J 154 = va_up (I 154) 0 (I 154 0 + 1) := by rw [← hJ, vup_s, c154]
      have j7 := gJ 7 (by decide)
      have jn : J 2 0 = (X1.1 : Int) := by rw [gJ 2 (by decide)]; exact h2
      have hhJ : HO X1.1 (J 7) := by rw [j7, s7]; exact y3
      have jf : J 150 1 = (c : Int) := by rw [gJ 150 (by decide), c150]; exact hfc
      have hcu := c_unite (I := J) (L := L) hL jn y1 (fun t ht => ⟨(hhJ t ht).1, (hhJ t ht).2.1⟩) t Pn (by omega) (by omega)
      refine wt_ir (fun hI2 => ?_)
      have plJ : PlOK J us := by
        obtain ⟨w1, w2, w3, w4⟩ := hpl
        refine ⟨w1, ?_, ?_, ?_⟩
        · rw [gJ 133 (by decide), hB 133 (by decide) (by decide) (by decide)]; exact w2
        · rw [gJ 135 (by decide), hB 135 (by decide) (by decide) (by decide)]; exact w3
        · rw [gJ 134 (by decide), gJ 135 (by decide), hB 134 (by decide) (by decide) (by decide), hB 135 (by decide) (by decide) (by decide)]; exact w4
      by_cases hsame : X1.1 = n ∧ J 7 t = J 7 Pn
      · -- nothing changes
        obtain ⟨hs1, hs2⟩ := hsame
        rw [if_pos hs2, hs2, tmJn_same, vup_self] at hcu
        have tabn : TabOK X1.1 X1.2.1 X1.2.2.1 X1.2.2.2.1 (J 7) (J 134) := by
          rw [gJ 134 (by decide), hB 134 (by decide) (by decide) (by decide), hs1, j7, s7]
          exact htab.row (fun t ht => by have := ext1.2 t ht; exact ⟨this.1, this.2.1, this.2.2.1, this.2.2.2.2⟩)
        have nce : nCls n (J 7) = nCls n (I 7) := nCls_congr (fun t ht => by rw [j7]; exact h7o t ht)
        refine wa_istore dX3_doOne_29 (by decide) ?_
        refine wa_iload dX3_doOne_31 rfl ?_
        refine wa_iconst dX3_doOne_33 ?_
        refine wa_icmp_ne 49 dX3_doOne_34 (by decide) (by exact ⟨by omega, by omega⟩) (by exact ⟨by omega, by omega⟩) (fun c_34 => ?_) (fun c_34 => ?_)
        · refine wa_aload_n dX3_doOne_49 rfl ?_
          refine wt_getR dX3_doOne_50 FX3_27 (by assumption) (by assumption) ?_
          refine wa_iconst dX3_doOne_53 ?_
          refine wa_dup2 dX3_doOne_54 rfl rfl ?_
          refine wt_iald 0 dX3_doOne_55 (by assumption) rfl (by omega) ?_
          try try simp only [jn]
          refine wa_iconst dX3_doOne_56 ?_
          refine wa_iadd dX3_doOne_57 ?_
          refine wt_iast 0 dX3_doOne_58 (by assumption) rfl (by omega) (by rw [c154]; exact ⟨by omega, by omega⟩) ?_
          rw [hJ]
          refine wa_aload_n dX3_doOne_59 rfl ?_
          refine wt_getI dX3_doOne_60 FX3_107 (by assumption) ?_
          try try simp only [jn]
          refine wa_iload_n dX3_doOne_63 rfl ?_
          refine wa_isub dX3_doOne_64 ?_
          refine wa_istore dX3_doOne_65 (by decide) ?_
          refine wa_aload_n dX3_doOne_67 rfl ?_
          refine wa_iload dX3_doOne_68 rfl ?_
          refine wa_aload_n dX3_doOne_70 rfl ?_
          refine wt_getR dX3_doOne_71 FX3_16 (by assumption) (by assumption) ?_
          refine wa_iload_n dX3_doOne_74 rfl ?_
          refine wa_iconst dX3_doOne_75 ?_
          refine wa_callVf (ci := 1) dX3_doOne_76 KX1_tell LX3_92 ⟨_, _, rfl, by decide⟩ o150 (by have := c_tell (I := J) (L := L) hfin jf hcm k 3 hk (by omega) d0 d1 d2 d3 d4 d5 e1; rw [show tmPart rr x y z P g 3 = (Pn : Int) from hPn] at this; exact this) (by decide) rfl rfl (Nat.le_of_ble_eq_true rfl) rfl rfl ?_
          refine wa_callVf (ci := 8) dX3_doOne_79 KX8_unite LX3_118 ⟨_, _, rfl, by decide⟩ o2 (hcu) (by decide) rfl rfl (Nat.le_of_ble_eq_true rfl) rfl rfl ?_
          refine wa_istore dX3_doOne_82 (by decide) ?_
          refine wa_iload dX3_doOne_84 rfl ?_
          refine wa_if_ne 96 dX3_doOne_86 (by decide) (by exact ⟨by omega, by omega⟩) (fun c_86 => ?_) (fun c_86 => ?_)
          · omega
          · refine wa_iload dX3_doOne_89 rfl ?_
            refine wa_if_ne 96 dX3_doOne_91 (by decide) (by exact ⟨by omega, by omega⟩) (fun c_91 => ?_) (fun c_91 => ?_)
            · omega
            · refine wa_iconst dX3_doOne_94 ?_
              refine wa_zreturn dX3_doOne_95 rfl (by first | exact Or.inl rfl | exact Or.inr rfl) ?_
              refine ⟨J, 0, rfl, rfl, fun a a1 a2 a3 a4 a5 a6 a7 a8 a9 a10 a11 a12 => by rw [gJ a a12]; exact hb a a1 a2 a3 a4 a5 a6 a10 a11, ⟨us, plJ⟩, ?_⟩
              show DoneR I J n X1 (md (sz - 1)).toNat P.toNat 0
              rw [ht', hPn]
              refine ⟨?_, jn, by rw [gJ 3 (by decide), s3], by rw [gJ 4 (by decide), s4], by rw [gJ 5 (by decide), s5], by rw [gJ 6 (by decide), s6], tabn, ?_, ?_, ?_, ?_, ?_, ?_⟩
              · rw [← s7, ← j7]
                exact done_same hhJ tabn.closed hs2
              · rw [if_neg (by rw [nce, hs1]; omega)]
              · rw [j154, vup_s]
              · rw [j154, vup_n (by decide)]
              · rw [j154, vup_n (by decide)]
              · rw [j154, vup_n (by decide), hs1]; omega
              · rw [j154, vup_n (by decide), if_neg (by rw [nce]; omega)]; omega
        · omega
      · -- something may change: settle
        generalize hU : va_up J 7 (tmJn X1.1 (J 7) (J 7 t) (J 7 Pn)) = U at hcu
        have gU : ∀ a, a ≠ 7 → U a = J a := fun a ha => by rw [← hU]; exact vup_n ha
        have u7 : U 7 = tmJn X1.1 (J 7) (J 7 t) (J 7 Pn) := by rw [← hU, vup_s]
        have u3 : U 3 = X1.2.1 := by rw [gU 3 (by decide), gJ 3 (by decide), s3]
        have u4 : U 4 = X1.2.2.1 := by rw [gU 4 (by decide), gJ 4 (by decide), s4]
        have u5 : U 5 = X1.2.2.2.1 := by rw [gU 5 (by decide), gJ 5 (by decide), s5]
        have u6 : U 6 = X1.2.2.2.2.1 := by rw [gU 6 (by decide), gJ 6 (by decide), s6]
        have un : U 2 0 = (X1.1 : Int) := by rw [gU 2 (by decide)]; exact jn
        have hhU : HO X1.1 (U 7) := by rw [u7]; exact tmJn_HO hhJ (by omega) (by omega)
        have plU : PlOK U us := by
          obtain ⟨w1, w2, w3, w4⟩ := plJ
          exact ⟨w1, by rw [gU 133 (by decide)]; exact w2, by rw [gU 135 (by decide)]; exact w3, by rw [gU 134 (by decide), gU 135 (by decide)]; exact w4⟩
        have hset := c_settle (I := U) (L := L) hL un y1 (by rw [u3, u4, u5]; exact y2) hhU plU
        -- behind settle
        have behind : ∀ (V : Nat → Nat → Int) (w : Int), (w = 0 ∨ w = 1) → StR X1.1 U V → tmW kX3_doOne 6 0 0 104 [some (tR 149), some (tI k), some (tR 2), some (tI n), some (tI ((nCls n (I 7) : Nat) : Int)), some (tI t), some (tI ((X1.1 : Int) - n)), some (tI w), none] [] (S, V, L) (DoPost S I L n (sz - 1) P (some (X1, md))) := by
          intro V w hw01 hst
          obtain ⟨st1, st2, st3, st4⟩ := hst
          have gV : ∀ a, a ≠ 7 → a ≠ 133 → a ≠ 134 → a ≠ 135 → V a = U a := st1
          have v154 : V 154 = va_up (I 154) 0 (I 154 0 + 1) := by rw [gV 154 (by decide) (by decide) (by decide) (by decide), gU 154 (by decide), j154]
          have vn : V 2 0 = (X1.1 : Int) := by rw [gV 2 (by decide) (by decide) (by decide) (by decide)]; exact un
          rw [u3, u4, u5] at st2 st4
          rw [u7, j7, s7] at st2
          generalize hZ : va_up V 154 (va_up (V 154) 3 (V 154 3 + ((X1.1 : Int) - n))) = Z
          have gZ : ∀ a, a ≠ 154 → Z a = V a := fun a ha => by rw [← hZ]; exact vup_n ha
          have z154 : Z 154 = va_up (va_up (I 154) 0 (I 154 0 + 1)) 3 (I 154 3 + ((X1.1 : Int) - n)) := by rw [← hZ, vup_s, v154, vup_n (show (3 : Nat) ≠ 0 by decide)]
          have zn : Z 2 0 = (X1.1 : Int) := by rw [gZ 2 (by decide)]; exact vn
          have zc := c_countClasses (I := Z) (L := L) hL zn y1 n xn
          rw [gZ 7 (by decide)] at zc
          change tmC _ _ _ _ _ _ _ (tmF (some (tI ((nCls n (V 7) : Nat) : Int))) _) at zc
          have ncv : nCls n (V 7) ≤ n := nCls_le _ _
          have mk : ∀ (W : Nat → Nat → Int) (u : Int), (∀ a, a ≠ 154 → W a = V a) → u = (if n < X1.1 ∨ nCls n (V 7) < nCls n (I 7) then 1 else 0) → W 154 0 = I 154 0 + 1 → W 154 1 = I 154 1 → W 154 2 = I 154 2 → W 154 3 = I 154 3 + ((X1.1 : Int) - n) → W 154 4 = I 154 4 + (if nCls n (V 7) < nCls n (I 7) then 1 else 0) → DoPost S I L n (sz - 1) P (some (X1, md)) (some (tI u)) (S, W, L) := by
            intro W u gW hu k0 k1 k2 k3 k4
            refine ⟨W, u, rfl, rfl, fun a a1 a2 a3 a4 a5 a6 a7 a8 a9 a10 a11 a12 => by rw [gW a a12, gV a a6 a7 a8 a9, gU a a6, gJ a a12]; exact hb a a1 a2 a3 a4 a5 a6 a10 a11, ?_, ?_⟩
            · obtain ⟨us', w1, w2, w3, w4⟩ := st3
              exact ⟨us', w1, by rw [gW 133 (by decide)]; exact w2, by rw [gW 135 (by decide)]; exact w3, by rw [gW 134 (by decide), gW 135 (by decide)]; exact w4⟩
            · show DoneR I W n X1 (md (sz - 1)).toNat P.toNat u
              rw [ht', hPn]
              have v3 : ∀ a, a ≠ 7 → a ≠ 133 → a ≠ 134 → a ≠ 135 → a ≠ 154 → W a = U a := fun a a1 a2 a3 a4 a5 => by rw [gW a a5]; exact gV a a1 a2 a3 a4
              refine ⟨by rw [gW 7 (by decide)]; exact st2, by rw [gW 2 (by decide)]; exact vn, by rw [v3 3 (by decide) (by decide) (by decide) (by decide) (by decide), u3], by rw [v3 4 (by decide) (by decide) (by decide) (by decide) (by decide), u4], by rw [v3 5 (by decide) (by decide) (by decide) (by decide) (by decide), u5], by rw [v3 6 (by decide) (by decide) (by decide) (by decide) (by decide), u6], by rw [gW 7 (by decide), gW 134 (by decide)]; exact st4, by rw [gW 7 (by decide)]; exact hu, k0, k1, k2, k3, by rw [gW 7 (by decide)]; exact k4⟩
          refine wt_ir (fun hI3 => ?_)
          by_cases hfew : nCls n (V 7) < nCls n (I 7)
          · refine wa_aload_n dX3_doOne_104 rfl ?_
            refine wt_getR dX3_doOne_105 FX3_27 (by assumption) (by assumption) ?_
            refine wa_iconst dX3_doOne_108 ?_
            refine wa_dup2 dX3_doOne_109 rfl rfl ?_
            refine wt_iald 3 dX3_doOne_110 (by assumption) rfl (by omega) ?_
            refine wa_iload dX3_doOne_111 rfl ?_
            refine wa_iadd dX3_doOne_113 ?_
            refine wt_iast 3 dX3_doOne_114 (by assumption) rfl (by omega) (by simp only [v154, vup_if, Nat.reduceEqDiff, ↓reduceIte]; exact ⟨by omega, by omega⟩) ?_
            rw [hZ]
            refine wa_aload_n dX3_doOne_115 rfl ?_
            refine wa_iload_n dX3_doOne_116 rfl ?_
            refine wa_callVf (ci := 8) dX3_doOne_117 KX8_countClasses LX3_110 ⟨_, _, rfl, by decide⟩ o2 (zc) (by decide) rfl rfl (Nat.le_of_ble_eq_true rfl) rfl rfl ?_
            refine wa_iload dX3_doOne_120 rfl ?_
            refine wa_icmp_ge 129 dX3_doOne_122 (by decide) (by exact ⟨by omega, by omega⟩) (by exact ⟨by omega, by omega⟩) (fun c_122 => ?_) (fun c_122 => ?_)
            · omega
            · refine wa_iconst dX3_doOne_125 ?_
              refine wa_goto 130 dX3_doOne_126 (by decide) ?_
              refine wa_istore dX3_doOne_130 (by decide) ?_
              refine wa_iload dX3_doOne_132 rfl ?_
              refine wa_if_eq 147 dX3_doOne_134 (by decide) (by exact ⟨by omega, by omega⟩) (fun c_134 => ?_) (fun c_134 => ?_)
              · omega
              · refine wa_aload_n dX3_doOne_137 rfl ?_
                refine wt_getR dX3_doOne_138 FX3_27 (by assumption) (by assumption) ?_
                refine wa_iconst dX3_doOne_141 ?_
                refine wa_dup2 dX3_doOne_142 rfl rfl ?_
                refine wt_iald 4 dX3_doOne_143 (by assumption) rfl (by omega) ?_
                refine wa_iconst dX3_doOne_144 ?_
                refine wa_iadd dX3_doOne_145 ?_
                refine wt_iast 4 dX3_doOne_146 (by assumption) rfl (by omega) (by simp only [z154, vup_if, Nat.reduceEqDiff, ↓reduceIte]; exact ⟨by omega, by omega⟩) ?_
                refine wa_iload dX3_doOne_147 rfl ?_
                refine wa_if_gt 157 dX3_doOne_149 (by decide) (by exact ⟨by omega, by omega⟩) (fun c_149 => ?_) (fun c_149 => ?_)
                · refine wa_iconst dX3_doOne_157 ?_
                  refine wa_goto 162 dX3_doOne_158 (by decide) ?_
                  refine wa_zreturn dX3_doOne_162 rfl (by first | exact Or.inl rfl | exact Or.inr rfl) ?_
                  refine mk _ 1 (fun a ha => by rw [vup_n ha]; exact gZ a ha) (by rw [if_pos (Or.inr hfew)]) ?_ ?_ ?_ ?_ ?_
                  · simp only [z154, vup_if, Nat.reduceEqDiff, ↓reduceIte]
                  · simp only [z154, vup_if, Nat.reduceEqDiff, ↓reduceIte]
                  · simp only [z154, vup_if, Nat.reduceEqDiff, ↓reduceIte]
                  · simp only [z154, vup_if, Nat.reduceEqDiff, ↓reduceIte]
                  · simp only [z154, vup_if, Nat.reduceEqDiff, ↓reduceIte, hfew]
                · refine wa_iload dX3_doOne_152 rfl ?_
                  refine wa_if_eq 161 dX3_doOne_154 (by decide) (by exact ⟨by omega, by omega⟩) (fun c_154 => ?_) (fun c_154 => ?_)
                  · omega
                  · refine wa_iconst dX3_doOne_157 ?_
                    refine wa_goto 162 dX3_doOne_158 (by decide) ?_
                    refine wa_zreturn dX3_doOne_162 rfl (by first | exact Or.inl rfl | exact Or.inr rfl) ?_
                    refine mk _ 1 (fun a ha => by rw [vup_n ha]; exact gZ a ha) (by rw [if_pos (Or.inr hfew)]) ?_ ?_ ?_ ?_ ?_
                    · simp only [z154, vup_if, Nat.reduceEqDiff, ↓reduceIte]
                    · simp only [z154, vup_if, Nat.reduceEqDiff, ↓reduceIte]
                    · simp only [z154, vup_if, Nat.reduceEqDiff, ↓reduceIte]
                    · simp only [z154, vup_if, Nat.reduceEqDiff, ↓reduceIte]
                    · simp only [z154, vup_if, Nat.reduceEqDiff, ↓reduceIte, hfew]
          · have e4 : Z 154 4 = I 154 4 + (if nCls n (V 7) < nCls n (I 7) then 1 else 0) := by rw [if_neg hfew, z154, vup_n (by decide), vup_n (by decide)]; omega
            refine wa_aload_n dX3_doOne_104 rfl ?_
            refine wt_getR dX3_doOne_105 FX3_27 (by assumption) (by assumption) ?_
            refine wa_iconst dX3_doOne_108 ?_
            refine wa_dup2 dX3_doOne_109 rfl rfl ?_
            refine wt_iald 3 dX3_doOne_110 (by assumption) rfl (by omega) ?_
            refine wa_iload dX3_doOne_111 rfl ?_
            refine wa_iadd dX3_doOne_113 ?_
            refine wt_iast 3 dX3_doOne_114 (by assumption) rfl (by omega) (by simp only [v154, vup_if, Nat.reduceEqDiff, ↓reduceIte]; exact ⟨by omega, by omega⟩) ?_
            rw [hZ]
            refine wa_aload_n dX3_doOne_115 rfl ?_
            refine wa_iload_n dX3_doOne_116 rfl ?_
            refine wa_callVf (ci := 8) dX3_doOne_117 KX8_countClasses LX3_110 ⟨_, _, rfl, by decide⟩ o2 (zc) (by decide) rfl rfl (Nat.le_of_ble_eq_true rfl) rfl rfl ?_
            refine wa_iload dX3_doOne_120 rfl ?_
            refine wa_icmp_ge 129 dX3_doOne_122 (by decide) (by exact ⟨by omega, by omega⟩) (by exact ⟨by omega, by omega⟩) (fun c_122 => ?_) (fun c_122 => ?_)
            · refine wa_iconst dX3_doOne_129 ?_
              refine wa_istore dX3_doOne_130 (by decide) ?_
              refine wa_iload dX3_doOne_132 rfl ?_
              refine wa_if_eq 147 dX3_doOne_134 (by decide) (by exact ⟨by omega, by omega⟩) (fun c_134 => ?_) (fun c_134 => ?_)
              · refine wa_iload dX3_doOne_147 rfl ?_
                refine wa_if_gt 157 dX3_doOne_149 (by decide) (by exact ⟨by omega, by omega⟩) (fun c_149 => ?_) (fun c_149 => ?_)
                · refine wa_iconst dX3_doOne_157 ?_
                  refine wa_goto 162 dX3_doOne_158 (by decide) ?_
                  refine wa_zreturn dX3_doOne_162 rfl (by first | exact Or.inl rfl | exact Or.inr rfl) ?_
                  refine mk Z _ gZ ?_ ?_ ?_ ?_ ?_ e4
                  · first | rw [if_pos (Or.inl (by omega))] | rw [if_neg (by omega)]
                  · simp only [z154, vup_if, Nat.reduceEqDiff, ↓reduceIte]
                  · simp only [z154, vup_if, Nat.reduceEqDiff, ↓reduceIte]
                  · simp only [z154, vup_if, Nat.reduceEqDiff, ↓reduceIte]
                  · simp only [z154, vup_if, Nat.reduceEqDiff, ↓reduceIte]
                · refine wa_iload dX3_doOne_152 rfl ?_
                  refine wa_if_eq 161 dX3_doOne_154 (by decide) (by exact ⟨by omega, by omega⟩) (fun c_154 => ?_) (fun c_154 => ?_)
                  · refine wa_iconst dX3_doOne_161 ?_
                    refine wa_zreturn dX3_doOne_162 rfl (by first | exact Or.inl rfl | exact Or.inr rfl) ?_
                    refine mk Z _ gZ ?_ ?_ ?_ ?_ ?_ e4
                    · first | rw [if_pos (Or.inl (by omega))] | rw [if_neg (by omega)]
                    · simp only [z154, vup_if, Nat.reduceEqDiff, ↓reduceIte]
                    · simp only [z154, vup_if, Nat.reduceEqDiff, ↓reduceIte]
                    · simp only [z154, vup_if, Nat.reduceEqDiff, ↓reduceIte]
                    · simp only [z154, vup_if, Nat.reduceEqDiff, ↓reduceIte]
                  · omega
              · omega
            · omega
        refine wa_istore dX3_doOne_29 (by decide) ?_
        refine wa_iload dX3_doOne_31 rfl ?_
        refine wa_iconst dX3_doOne_33 ?_
        refine wa_icmp_ne 49 dX3_doOne_34 (by decide) (by first | exact ⟨by omega, by omega⟩ | (split <;> exact ⟨by omega, by omega⟩)) (by first | exact ⟨by omega, by omega⟩ | (split <;> exact ⟨by omega, by omega⟩)) (fun c_34 => ?_) (fun c_34 => ?_)
        · refine wa_aload_n dX3_doOne_49 rfl ?_
          refine wt_getR dX3_doOne_50 FX3_27 (by assumption) (by assumption) ?_
          refine wa_iconst dX3_doOne_53 ?_
          refine wa_dup2 dX3_doOne_54 rfl rfl ?_
          refine wt_iald 0 dX3_doOne_55 (by assumption) rfl (by omega) ?_
          try try simp only [jn]
          refine wa_iconst dX3_doOne_56 ?_
          refine wa_iadd dX3_doOne_57 ?_
          refine wt_iast 0 dX3_doOne_58 (by assumption) rfl (by omega) (by rw [c154]; exact ⟨by omega, by omega⟩) ?_
          rw [hJ]
          refine wa_aload_n dX3_doOne_59 rfl ?_
          refine wt_getI dX3_doOne_60 FX3_107 (by assumption) ?_
          try try simp only [jn]
          refine wa_iload_n dX3_doOne_63 rfl ?_
          refine wa_isub dX3_doOne_64 ?_
          refine wa_istore dX3_doOne_65 (by decide) ?_
          refine wa_aload_n dX3_doOne_67 rfl ?_
          refine wa_iload dX3_doOne_68 rfl ?_
          refine wa_aload_n dX3_doOne_70 rfl ?_
          refine wt_getR dX3_doOne_71 FX3_16 (by assumption) (by assumption) ?_
          refine wa_iload_n dX3_doOne_74 rfl ?_
          refine wa_iconst dX3_doOne_75 ?_
          refine wa_callVf (ci := 1) dX3_doOne_76 KX1_tell LX3_92 ⟨_, _, rfl, by decide⟩ o150 (by have := c_tell (I := J) (L := L) hfin jf hcm k 3 hk (by omega) d0 d1 d2 d3 d4 d5 e1; rw [show tmPart rr x y z P g 3 = (Pn : Int) from hPn] at this; exact this) (by decide) rfl rfl (Nat.le_of_ble_eq_true rfl) rfl rfl ?_
          refine wa_callVf (ci := 8) dX3_doOne_79 KX8_unite LX3_118 ⟨_, _, rfl, by decide⟩ o2 (hcu) (by decide) rfl rfl (Nat.le_of_ble_eq_true rfl) rfl rfl ?_
          refine wa_istore dX3_doOne_82 (by decide) ?_
          refine wa_iload dX3_doOne_84 rfl ?_
          refine wa_if_ne 96 dX3_doOne_86 (by decide) (by first | exact ⟨by omega, by omega⟩ | (split <;> exact ⟨by omega, by omega⟩)) (fun c_86 => ?_) (fun c_86 => ?_)
          · refine wa_aload_n dX3_doOne_96 rfl ?_
            refine wt_getR dX3_doOne_97 FX3_34 (by assumption) (by assumption) ?_
            refine wa_aload_n dX3_doOne_100 rfl ?_
            refine wa_callV (ci := 5) dX3_doOne_101 KX5_settle LX3_121 ⟨_, _, rfl, by decide⟩ o133 (hset) (by decide) rfl (Nat.le_of_ble_eq_true rfl) rfl rfl (fun r h' hq => ?_)
            obtain ⟨rfl, V, rfl, hst⟩ := hq
            exact behind V _ (by split <;> simp) hst
          · refine wa_iload dX3_doOne_89 rfl ?_
            refine wa_if_ne 96 dX3_doOne_91 (by decide) (by first | exact ⟨by omega, by omega⟩ | (split <;> exact ⟨by omega, by omega⟩)) (fun c_91 => ?_) (fun c_91 => ?_)
            · refine wa_aload_n dX3_doOne_96 rfl ?_
              refine wt_getR dX3_doOne_97 FX3_34 (by assumption) (by assumption) ?_
              refine wa_aload_n dX3_doOne_100 rfl ?_
              refine wa_callV (ci := 5) dX3_doOne_101 KX5_settle LX3_121 ⟨_, _, rfl, by decide⟩ o133 (hset) (by decide) rfl (Nat.le_of_ble_eq_true rfl) rfl rfl (fun r h' hq => ?_)
              obtain ⟨rfl, V, rfl, hst⟩ := hq
              exact behind V _ (by split <;> simp) hst
            · exfalso
              refine hsame ⟨by omega, ?_⟩
              by_cases zz : J 7 t = J 7 Pn
              · exact zz
              · rw [if_neg zz] at c_91; omega
        · omega
    refine wa_aload_n dX3_doOne_0 rfl ?_
    refine wt_getR dX3_doOne_1 FX3_30 (by assumption) (by assumption) ?_
    refine wt_getR dX3_doOne_4 FX3_103 (by assumption) (by assumption) ?_
    refine wa_astore_n dX3_doOne_7 (by decide) ?_
    refine wa_aload_n dX3_doOne_8 rfl ?_
    refine wt_getI dX3_doOne_9 FX3_107 (by assumption) ?_
    try try rw [hn]
    refine wa_istore_n dX3_doOne_12 (by decide) ?_
    refine wa_aload_n dX3_doOne_13 rfl ?_
    refine wa_iload_n dX3_doOne_14 rfl ?_
    refine wa_callVf (ci := 8) dX3_doOne_15 KX8_countClasses LX3_110 ⟨_, _, rfl, by decide⟩ o2 (c_countClasses hL hn hn5 n (Nat.le_refl _)) (by decide) rfl rfl (Nat.le_of_ble_eq_true rfl) rfl rfl ?_
    refine wa_istore dX3_doOne_18 (by decide) ?_
    refine wa_aload_n dX3_doOne_20 rfl ?_
    refine wa_aload_n dX3_doOne_21 rfl ?_
    refine wt_getR dX3_doOne_22 FX3_16 (by assumption) (by assumption) ?_
    refine wa_iload_n dX3_doOne_25 rfl ?_
    refine wa_callV (ci := 3) dX3_doOne_26 KX3_buildRight LX3_114 ⟨_, _, rfl, by decide⟩ o149 (hbr) (by decide) rfl (Nat.le_of_ble_eq_true rfl) rfl rfl (fun r h' hq => ?_)
    obtain ⟨I2, rfl, hb, rfl, h2, h3⟩ := hq
    rw [ht']
    exact rest I2 hb h2 h3
end S32
