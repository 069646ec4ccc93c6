/-! ===== 41: Round.wouldChangeBy ===== -/
def BwFr (n : Nat) (I I' : Nat → Nat → Int) : Prop := (∀ a, a ≠ 2 → a ≠ 3 → a ≠ 4 → a ≠ 5 → a ≠ 6 → a ≠ 7 → a ≠ 141 → a ≠ 142 → I' a = I a) ∧ I' 2 0 = (n : Int) ∧ ∀ a, 3 ≤ a → a ≤ 7 → ∀ t, t < n → I' a t = I a t
section S41
variable {S : tmS} {I : Nat → Nat → Int} {L : Nat → Nat → Int64}
set_option maxRecDepth 20000 in
set_option maxHeartbeats 2000000 in
theorem c_wouldChangeBy (hL : LX S) {c k n nr : Nat} (hfc : I 144 1 = (c : Int)) (hcm : c ≤ 200) (hk : k < c) {rr : Nat} {x y z P g : Int} (he : Ent L 144 k rr x y z P g) (ht : TInv I n) (hg : 0 ≤ g ∧ g ≤ 9) (hnr : I 1 2 = (nr : Int)) (hnr6 : nr ≤ 6) (hrr : rr < nr) {p sz lf : Nat} (hp : S.2.2.2 8 rr = some p) (hw : RuleW S I p sz lf) (hro : RightOK I p sz lf n (ltOf n (I 7) x y z)) :
    tmC yX3_wouldChangeBy kX3_wouldChangeBy 5 0 0 [tR 149, tR 144, tI k] (S, I, L) (fun q h' => ∃ I' u, q = some (tI u) ∧ h' = (S, I', L) ∧ BwFr n I I' ∧ ((u = 1 ∧ wcB (I (p + 1)) (I (p + 2)) (I (p + 3)) sz lf (tsOf I n) x y z P g) ∨ (u = 0 ∧ ¬ wcB (I (p + 1)) (I (p + 2)) (I (p + 3)) sz lf (tsOf I n) x y z P g))) := by
  refine tmC.mk (lv := [some (tR 149), some (tR 144), some (tI k), none, none, none]) 3 ⟨rfl, by decide +kernel, by decide⟩ rfl rfl ?_
  obtain ⟨hn, hn5, hwt, hh, htab, hge⟩ := id ht
  obtain ⟨q1, q2, q3, q4, q5, q6, q7, q8, q9, q10, q11⟩ := id hw
  obtain ⟨e1, d0, d1, d2, d3, d4, d5⟩ := id he
  have o149 := oX149 hL
  have r149_0 := rX149_0 hL
  have r149_1 := rX149_1 hL
  have r149_2 := rX149_2 hL
  have r149_3 := rX149_3 hL
  have r149_4 := rX149_4 hL
  have r149_5 := rX149_5 hL
  have r149_6 := rX149_6 hL
  have r149_7 := rX149_7 hL
  have o1 := oX1 hL
  have r1_0 := rX1_0 hL
  have r1_1 := rX1_1 hL
  have r1_3 := rX1_3 hL
  have o2 := oX2 hL
  have r2_1 := rX2_1 hL
  have r2_2 := rX2_2 hL
  have r2_3 := rX2_3 hL
  have r2_4 := rX2_4 hL
  have r2_5 := rX2_5 hL
  have o144 := oX144 hL
  have r144_0 := rX144_0 hL
  have o145 := oX145 hL
  have hfin : LFin S 144 200 := ⟨o144, r144_0, o145⟩
  have hX0 : TsOK (tsOf I n) := ⟨hn5, hwt, hh, hge⟩
  have hbr := c_buildRight (L := L) hL hfin hfc hcm hk (Or.inl rfl) he hn hn5 hh hnr hnr6 hrr hp hw hro
  have hrel := bdF_rel (lt := ltOf n (I 7) x y z) (lt' := ltOf n (I 7) x y z) (g := g) q8 q7 hro.1 (sz - lf) lf (tsOf I n) (tsOf I n) (I 142) (fun _ => 0) (by omega) (Nat.le_refl _) (TsEq.refl _) (fun j a b => by omega) (fun _ _ _ _ => rfl)
  have hok := bdF_ok (lt := ltOf n (I 7) x y z) q8 q7 hro.1 hg (sz - lf) lf (tsOf I n) (I 142)
  have hwc : wcB (I (p + 1)) (I (p + 2)) (I (p + 3)) sz lf (tsOf I n) x y z P g ↔ match bdF (I (p + 1)) (I (p + 2)) (I (p + 3)) (ltOf n (I 7) x y z) g (sz - lf) lf (tsOf I n) (I 142) with | none => False | some (X1, md) => n < X1.1 ∨ tmHome n (I 7) (md (sz - 1)) ≠ P := by
    unfold wcB
    show (match bdF (I (p + 1)) (I (p + 2)) (I (p + 3)) (ltOf n (I 7) x y z) g (sz - lf) lf (tsOf I n) (fun _ => 0) with | none => False | some (X1, md) => n < X1.1 ∨ tmHome n (I 7) (md (sz - 1)) ≠ P) ↔ _
    clear hbr hok
    revert hrel
    generalize bdF (I (p + 1)) (I (p + 2)) (I (p + 3)) (ltOf n (I 7) x y z) g (sz - lf) lf (tsOf I n) (fun _ => 0) = A
    generalize bdF (I (p + 1)) (I (p + 2)) (I (p + 3)) (ltOf n (I 7) x y z) g (sz - lf) lf (tsOf I n) (I 142) = B
    intro hr
    cases A with
    | none => cases B with
      | none => exact Iff.rfl
      | some B => exact absurd hr id
    | some A => cases B with
      | none => exact absurd hr id
      | some B =>
        obtain ⟨h1, h2⟩ := hr
        simp only
        rw [h1.1, h2 (sz - 1) (by omega) (by omega)]
  clear hrel
  generalize hres : bdF (I (p + 1)) (I (p + 2)) (I (p + 3)) (ltOf n (I 7) x y z) g (sz - lf) lf (tsOf I n) (I 142) = res at hbr hok hwc
  cases res with
  | none =>
    have hnw : ¬ wcB (I (p + 1)) (I (p + 2)) (I (p + 3)) sz lf (tsOf I n) x y z P g := fun w => hwc.mp w
    refine wa_aload_n dX3_wouldChangeBy_0 rfl ?_
    refine wt_getR dX3_wouldChangeBy_1 FX3_30 (by assumption) (by assumption) ?_
    refine wt_getR dX3_wouldChangeBy_4 FX3_103 (by assumption) (by assumption) ?_
    refine wt_getI dX3_wouldChangeBy_7 FX3_107 (by assumption) ?_
    try try rw [hn]
    refine wa_istore_n dX3_wouldChangeBy_10 (by decide) ?_
    refine wa_aload_n dX3_wouldChangeBy_11 rfl ?_
    refine wa_aload_n dX3_wouldChangeBy_12 rfl ?_
    refine wa_iload_n dX3_wouldChangeBy_13 rfl ?_
    refine wa_callV (ci := 3) dX3_wouldChangeBy_14 KX3_buildRight LX3_114 ⟨_, _, rfl, by decide⟩ o149 (hbr) (by decide) rfl (Nat.le_of_ble_eq_true rfl) rfl rfl (fun r h' hq => ?_)
    obtain ⟨I2, rfl, hb, rfl, h2, h3⟩ := hq
    try rw [h2]
    refine wa_istore dX3_wouldChangeBy_17 (by decide) ?_
    refine wa_aload_n dX3_wouldChangeBy_19 rfl ?_
    refine wt_getR dX3_wouldChangeBy_20 FX3_30 (by assumption) (by assumption) ?_
    refine wt_getR dX3_wouldChangeBy_23 FX3_103 (by assumption) (by assumption) ?_
    refine wt_getI dX3_wouldChangeBy_26 FX3_107 (by assumption) ?_
    try try rw [hn]
    refine wa_iload_n dX3_wouldChangeBy_29 rfl ?_
    try rw [h2]
    refine wa_icmp_le 37 dX3_wouldChangeBy_30 (by decide) (by exact ⟨by omega, by omega⟩) (by exact ⟨by omega, by omega⟩) (fun c_30 => ?_) (fun c_30 => ?_)
    · refine wa_iconst dX3_wouldChangeBy_37 ?_
      refine wa_istore dX3_wouldChangeBy_38 (by decide) ?_
      refine wa_aload_n dX3_wouldChangeBy_40 rfl ?_
      refine wt_getR dX3_wouldChangeBy_41 FX3_30 (by assumption) (by assumption) ?_
      refine wt_getR dX3_wouldChangeBy_44 FX3_103 (by assumption) (by assumption) ?_
      refine wa_iload_n dX3_wouldChangeBy_47 rfl ?_
      refine wt_putI dX3_wouldChangeBy_48 FX3_107 (WX8_0 _ _) (by assumption) (by exact ⟨by omega, by omega⟩) ?_
      refine wa_iload dX3_wouldChangeBy_51 rfl ?_
      refine wa_iconst dX3_wouldChangeBy_53 ?_
      refine wa_icmp_eq 87 dX3_wouldChangeBy_54 (by decide) (by exact ⟨by omega, by omega⟩) (by exact ⟨by omega, by omega⟩) (fun c_54 => ?_) (fun c_54 => ?_)
      · refine wa_iconst dX3_wouldChangeBy_87 ?_
        refine wa_zreturn dX3_wouldChangeBy_88 rfl (by first | exact Or.inl rfl | exact Or.inr rfl) ?_
        refine ⟨_, 0, rfl, rfl, ⟨fun a a1 a2 a3 a4 a5 a6 a7 a8 => ?_, ?_, fun a a1 a2 t ht' => ?_⟩, Or.inr ⟨rfl, hnw⟩⟩
        · rw [vup_n a1]; exact hb a a1 a2 a3 a4 a5 a6 a7 a8
        · rw [vup_s, vup_s]
        · rw [vup_n (by omega)]; exact h3 a a1 a2 t ht'
      · omega
    · omega
  | some Xm =>
    obtain ⟨X1, md⟩ := Xm
    obtain ⟨w1, w2, w3⟩ := hok X1 md (by omega) (Nat.le_refl _) rfl hX0 (fun j a b => by omega) (fun j a b c => hro.2 j a (by omega) c)
    have ht' := w3 (sz - 1) (by omega) (by omega)
    have hle : n ≤ X1.1 := w2.1
    have h50 := w1.1
    have hwc' : wcB (I (p + 1)) (I (p + 2)) (I (p + 3)) sz lf (tsOf I n) x y z P g ↔ n < X1.1 ∨ tmHome n (I 7) (md (sz - 1)) ≠ P := hwc
    refine wa_aload_n dX3_wouldChangeBy_0 rfl ?_
    refine wt_getR dX3_wouldChangeBy_1 FX3_30 (by assumption) (by assumption) ?_
    refine wt_getR dX3_wouldChangeBy_4 FX3_103 (by assumption) (by assumption) ?_
    refine wt_getI dX3_wouldChangeBy_7 FX3_107 (by assumption) ?_
    try try rw [hn]
    refine wa_istore_n dX3_wouldChangeBy_10 (by decide) ?_
    refine wa_aload_n dX3_wouldChangeBy_11 rfl ?_
    refine wa_aload_n dX3_wouldChangeBy_12 rfl ?_
    refine wa_iload_n dX3_wouldChangeBy_13 rfl ?_
    refine wa_callV (ci := 3) dX3_wouldChangeBy_14 KX3_buildRight LX3_114 ⟨_, _, rfl, by decide⟩ o149 (hbr) (by decide) rfl (Nat.le_of_ble_eq_true rfl) rfl rfl (fun r h' hq => ?_)
    obtain ⟨I2, rfl, hb, rfl, h2, h3⟩ := hq
    have hrow : ∀ a, 3 ≤ a → a ≤ 7 → ∀ t, t < n → I2 a t = I a t := by
      intro a a1 a2 t htn
      obtain ⟨x1, x2, x3, x4, x5⟩ := w2.2 t htn
      have y1 : X1.2.1 = I2 3 := by rw [← h3]
      have y2 : X1.2.2.1 = I2 4 := by rw [← h3]
      have y3 : X1.2.2.2.1 = I2 5 := by rw [← h3]
      have y4 : X1.2.2.2.2.1 = I2 6 := by rw [← h3]
      have y5 : X1.2.2.2.2.2 = I2 7 := by rw [← h3]
      rw [y1] at x1; rw [y2] at x2; rw [y3] at x3; rw [y4] at x4; rw [y5] at x5
      have : a = 3 ∨ a = 4 ∨ a = 5 ∨ a = 6 ∨ a = 7 := by omega
      rcases this with rfl | rfl | rfl | rfl | rfl
      · exact x1
      · exact x2
      · exact x3
      · exact x4
      · exact x5
    generalize hJ : va_up I2 2 (va_up (I2 2) 0 (n : Int)) = J
    have j2 : J 2 0 = (n : Int) := by rw [← hJ, vup_s, vup_s]
    have gJ : ∀ a, a ≠ 2 → J a = I2 a := fun a ha => by rw [← hJ]; exact vup_n ha
    have hfr : BwFr n I J := ⟨fun a a1 a2 a3 a4 a5 a6 a7 a8 => by rw [gJ a a1]; exact hb a a1 a2 a3 a4 a5 a6 a7 a8, j2, fun a a1 a2 t ht' => by rw [gJ a (by omega)]; exact hrow a a1 a2 t ht'⟩
    have hho := c_homeOf (I := J) (L := L) hL j2 hn5 (md (sz - 1)) ⟨by omega, by omega⟩
    rw [tmHome_cg (h := I 7) (fun t ht => hfr.2.2 7 (by decide) (by decide) t ht)] at hho
    have j144 : J 144 1 = (c : Int) := by rw [hfr.1 144 (by decide) (by decide) (by decide) (by decide) (by decide) (by decide) (by decide) (by decide)]; exact hfc
    have htl := c_tell (I := J) (L := L) hfin j144 hcm k 3 hk (by decide) d0 d1 d2 d3 d4 d5 e1
    have hhr : inR (tmHome n (I 7) (md (sz - 1))) := by
      by_cases hx : 0 ≤ md (sz - 1) ∧ md (sz - 1) < n
      · rw [tmHome_in hx]; have := hh (md (sz - 1)).toNat (by omega); exact ⟨by omega, by omega⟩
      · rw [tmHome_out hx]; exact ⟨by omega, by omega⟩
    refine wa_istore dX3_wouldChangeBy_17 (by decide) ?_
    refine wa_aload_n dX3_wouldChangeBy_19 rfl ?_
    refine wt_getR dX3_wouldChangeBy_20 FX3_30 (by assumption) (by assumption) ?_
    refine wt_getR dX3_wouldChangeBy_23 FX3_103 (by assumption) (by assumption) ?_
    refine wt_getI dX3_wouldChangeBy_26 FX3_107 (by assumption) ?_
    try try rw [hn]
    refine wa_iload_n dX3_wouldChangeBy_29 rfl ?_
    try rw [h2]
    refine wa_icmp_le 37 dX3_wouldChangeBy_30 (by decide) (by exact ⟨by omega, by omega⟩) (by exact ⟨by omega, by omega⟩) (fun c_30 => ?_) (fun c_30 => ?_)
    · refine wa_iconst dX3_wouldChangeBy_37 ?_
      refine wa_istore dX3_wouldChangeBy_38 (by decide) ?_
      refine wa_aload_n dX3_wouldChangeBy_40 rfl ?_
      refine wt_getR dX3_wouldChangeBy_41 FX3_30 (by assumption) (by assumption) ?_
      refine wt_getR dX3_wouldChangeBy_44 FX3_103 (by assumption) (by assumption) ?_
      refine wa_iload_n dX3_wouldChangeBy_47 rfl ?_
      refine wt_putI dX3_wouldChangeBy_48 FX3_107 (WX8_0 _ _) (by assumption) (by exact ⟨by omega, by omega⟩) ?_
      rw [hJ]
      refine wa_iload dX3_wouldChangeBy_51 rfl ?_
      refine wa_iconst dX3_wouldChangeBy_53 ?_
      refine wa_icmp_eq 87 dX3_wouldChangeBy_54 (by decide) (by exact ⟨by omega, by omega⟩) (by exact ⟨by omega, by omega⟩) (fun c_54 => ?_) (fun c_54 => ?_)
      · omega
      · refine wa_iload dX3_wouldChangeBy_57 rfl ?_
        refine wa_if_ne 83 dX3_wouldChangeBy_59 (by decide) (by exact ⟨by omega, by omega⟩) (fun c_59 => ?_) (fun c_59 => ?_)
        · refine wa_iconst dX3_wouldChangeBy_83 ?_
          refine wa_goto 88 dX3_wouldChangeBy_84 (by decide) ?_
          refine wa_zreturn dX3_wouldChangeBy_88 rfl (by first | exact Or.inl rfl | exact Or.inr rfl) ?_
          refine ⟨_, _, rfl, rfl, hfr, ?_⟩
          rw [hwc']
          first
          | exact Or.inl ⟨rfl, Or.inl (by omega)⟩
          | exact Or.inl ⟨rfl, Or.inr c_80⟩
          | exact Or.inr ⟨rfl, fun w => w.elim (fun z => by omega) (fun z => z c_80)⟩
          | (exfalso; omega)
        · refine wa_aload_n dX3_wouldChangeBy_62 rfl ?_
          refine wt_getR dX3_wouldChangeBy_63 FX3_30 (by assumption) (by assumption) ?_
          refine wt_getR dX3_wouldChangeBy_66 FX3_103 (by assumption) (by assumption) ?_
          refine wa_iload dX3_wouldChangeBy_69 rfl ?_
          refine wa_callVf (ci := 8) dX3_wouldChangeBy_71 KX8_homeOf LX3_132 ⟨_, _, rfl, by decide⟩ o2 (hho) (by decide) rfl rfl (Nat.le_of_ble_eq_true rfl) rfl rfl ?_
          refine wa_aload_n dX3_wouldChangeBy_74 rfl ?_
          refine wa_iload_n dX3_wouldChangeBy_75 rfl ?_
          refine wa_iconst dX3_wouldChangeBy_76 ?_
          refine wa_callVf (ci := 1) dX3_wouldChangeBy_77 KX1_tell LX3_92 ⟨_, _, rfl, by decide⟩ o144 (htl) (by decide) rfl rfl (Nat.le_of_ble_eq_true rfl) rfl rfl ?_
          refine wa_icmp_eq 87 dX3_wouldChangeBy_80 (by decide) (by first | exact hhr | (have := d4; unfold isDg at this; exact ⟨by simp only [tmPart]; omega, by simp only [tmPart]; omega⟩)) (by first | exact hhr | (have := d4; unfold isDg at this; exact ⟨by simp only [tmPart]; omega, by simp only [tmPart]; omega⟩)) (fun c_80 => ?_) (fun c_80 => ?_)
          · refine wa_iconst dX3_wouldChangeBy_87 ?_
            refine wa_zreturn dX3_wouldChangeBy_88 rfl (by first | exact Or.inl rfl | exact Or.inr rfl) ?_
            refine ⟨_, _, rfl, rfl, hfr, ?_⟩
            rw [hwc']
            first
            | exact Or.inl ⟨rfl, Or.inl (by omega)⟩
            | exact Or.inl ⟨rfl, Or.inr c_80⟩
            | exact Or.inr ⟨rfl, fun w => w.elim (fun z => by omega) (fun z => z c_80)⟩
            | (exfalso; omega)
          · refine wa_iconst dX3_wouldChangeBy_83 ?_
            refine wa_goto 88 dX3_wouldChangeBy_84 (by decide) ?_
            refine wa_zreturn dX3_wouldChangeBy_88 rfl (by first | exact Or.inl rfl | exact Or.inr rfl) ?_
            refine ⟨_, _, rfl, rfl, hfr, ?_⟩
            rw [hwc']
            first
            | exact Or.inl ⟨rfl, Or.inl (by omega)⟩
            | exact Or.inl ⟨rfl, Or.inr c_80⟩
            | exact Or.inr ⟨rfl, fun w => w.elim (fun z => by omega) (fun z => z c_80)⟩
            | (exfalso; omega)
    · refine wa_iconst dX3_wouldChangeBy_33 ?_
      refine wa_goto 38 dX3_wouldChangeBy_34 (by decide) ?_
      refine wa_istore dX3_wouldChangeBy_38 (by decide) ?_
      refine wa_aload_n dX3_wouldChangeBy_40 rfl ?_
      refine wt_getR dX3_wouldChangeBy_41 FX3_30 (by assumption) (by assumption) ?_
      refine wt_getR dX3_wouldChangeBy_44 FX3_103 (by assumption) (by assumption) ?_
      refine wa_iload_n dX3_wouldChangeBy_47 rfl ?_
      refine wt_putI dX3_wouldChangeBy_48 FX3_107 (WX8_0 _ _) (by assumption) (by exact ⟨by omega, by omega⟩) ?_
      rw [hJ]
      refine wa_iload dX3_wouldChangeBy_51 rfl ?_
      refine wa_iconst dX3_wouldChangeBy_53 ?_
      refine wa_icmp_eq 87 dX3_wouldChangeBy_54 (by decide) (by exact ⟨by omega, by omega⟩) (by exact ⟨by omega, by omega⟩) (fun c_54 => ?_) (fun c_54 => ?_)
      · omega
      · refine wa_iload dX3_wouldChangeBy_57 rfl ?_
        refine wa_if_ne 83 dX3_wouldChangeBy_59 (by decide) (by exact ⟨by omega, by omega⟩) (fun c_59 => ?_) (fun c_59 => ?_)
        · refine wa_iconst dX3_wouldChangeBy_83 ?_
          refine wa_goto 88 dX3_wouldChangeBy_84 (by decide) ?_
          refine wa_zreturn dX3_wouldChangeBy_88 rfl (by first | exact Or.inl rfl | exact Or.inr rfl) ?_
          refine ⟨_, _, rfl, rfl, hfr, ?_⟩
          rw [hwc']
          first
          | exact Or.inl ⟨rfl, Or.inl (by omega)⟩
          | exact Or.inl ⟨rfl, Or.inr c_80⟩
          | exact Or.inr ⟨rfl, fun w => w.elim (fun z => by omega) (fun z => z c_80)⟩
          | (exfalso; omega)
        · refine wa_aload_n dX3_wouldChangeBy_62 rfl ?_
          refine wt_getR dX3_wouldChangeBy_63 FX3_30 (by assumption) (by assumption) ?_
          refine wt_getR dX3_wouldChangeBy_66 FX3_103 (by assumption) (by assumption) ?_
          refine wa_iload dX3_wouldChangeBy_69 rfl ?_
          refine wa_callVf (ci := 8) dX3_wouldChangeBy_71 KX8_homeOf LX3_132 ⟨_, _, rfl, by decide⟩ o2 (hho) (by decide) rfl rfl (Nat.le_of_ble_eq_true rfl) rfl rfl ?_
          refine wa_aload_n dX3_wouldChangeBy_74 rfl ?_
          refine wa_iload_n dX3_wouldChangeBy_75 rfl ?_
          refine wa_iconst dX3_wouldChangeBy_76 ?_
          refine wa_callVf (ci := 1) dX3_wouldChangeBy_77 KX1_tell LX3_92 ⟨_, _, rfl, by decide⟩ o144 (htl) (by decide) rfl rfl (Nat.le_of_ble_eq_true rfl) rfl rfl ?_
          refine wa_icmp_eq 87 dX3_wouldChangeBy_80 (by decide) (by first | exact hhr | (have := d4; unfold isDg at this; exact ⟨by simp only [tmPart]; omega, by simp only [tmPart]; omega⟩)) (by first | exact hhr | (have := d4; unfold isDg at this; exact ⟨by simp only [tmPart]; omega, by simp only [tmPart]; omega⟩)) (fun c_80 => ?_) (fun c_80 => ?_)
          · refine wa_iconst dX3_wouldChangeBy_87 ?_
            refine wa_zreturn dX3_wouldChangeBy_88 rfl (by first | exact Or.inl rfl | exact Or.inr rfl) ?_
            refine ⟨_, _, rfl, rfl, hfr, ?_⟩
            rw [hwc']
            first
            | exact Or.inl ⟨rfl, Or.inl (by omega)⟩
            | exact Or.inl ⟨rfl, Or.inr c_80⟩
            | exact Or.inr ⟨rfl, fun w => w.elim (fun z => by omega) (fun z => z c_80)⟩
            | (exfalso; omega)
          · refine wa_iconst dX3_wouldChangeBy_83 ?_
            refine wa_goto 88 dX3_wouldChangeBy_84 (by decide) ?_
            refine wa_zreturn dX3_wouldChangeBy_88 rfl (by first | exact Or.inl rfl | exact Or.inr rfl) ?_
            refine ⟨_, _, rfl, rfl, hfr, ?_⟩
            rw [hwc']
            first
            | exact Or.inl ⟨rfl, Or.inl (by omega)⟩
            | exact Or.inl ⟨rfl, Or.inr c_80⟩
            | exact Or.inr ⟨rfl, fun w => w.elim (fun z => by omega) (fun z => z c_80)⟩
            | (exfalso; omega)
end S41
