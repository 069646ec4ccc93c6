/-! ===== 83: TriggerMatches: about, term ===== -/
def aboutX (X : TS) (t : Nat) (w : Int) : Int :=
  if w = 0 then ((tmCnt (fun k => X.2.2.2.2.2 k = X.2.2.2.2.2 t) X.1 0 : Nat) : Int) else if w = 1 then tmLeast (fun k => X.2.2.2.2.2 k = X.2.2.2.2.2 t) X.2.2.2.2.1 X.1 0 9 else if w = 2 then costX X (X.2.2.2.2.2 t)
  else ((tmCnt (fun k => tmHome X.1 X.2.2.2.2.2 (X.2.2.1 k) = X.2.2.2.2.2 t ∨ tmHome X.1 X.2.2.2.2.2 (X.2.2.2.1 k) = X.2.2.2.2.2 t) X.1 0 : Nat) : Int)
def spAbout (A : AS) (t w : Int) : Int × AS := if isT A t ∧ 0 ≤ w ∧ w ≤ 3 then (aboutX A.1.1 t.toNat w, A) else (-2, aRf A 0)
theorem tmLeast_cg {P P' : Nat → Prop} [DecidablePred P] [DecidablePred P'] {g g' : Nat → Int} : ∀ (k t : Nat) (c : Int), (∀ y, t ≤ y → y < t + k → ((P y ↔ P' y) ∧ g' y = g y)) → tmLeast P g k t c = tmLeast P' g' k t c := by
  intro k
  induction k with
  | zero => intro t c _; rfl
  | succ k ih =>
    intro t c h
    have h0 := h t (by omega) (by omega)
    simp only [tmLeast]
    rw [h0.2]
    by_cases p : P t
    · rw [if_pos p, if_pos (h0.1.mp p)]; exact ih (t + 1) _ (fun y a b => h y (by omega) (by omega))
    · rw [if_neg p, if_neg (fun z => p (h0.1.mpr z))]; exact ih (t + 1) _ (fun y a b => h y (by omega) (by omega))
theorem aboutX_cg {X Y : TS} (h : TsEq X Y) {t : Nat} (ht : t < X.1) (w : Int) : aboutX Y t w = aboutX X t w := by
  have e : ∀ k, k < X.1 → Y.2.2.2.2.2 k = X.2.2.2.2.2 k := fun k hk => (h.2 k hk).2.2.2.2
  unfold aboutX
  rw [h.1, e t ht]
  have e0 : tmCnt (fun k => Y.2.2.2.2.2 k = X.2.2.2.2.2 t) X.1 0 = tmCnt (fun k => X.2.2.2.2.2 k = X.2.2.2.2.2 t) X.1 0 := tmCnt_congr _ _ (fun y _ hy => by rw [e y (by omega)])
  have e1 : tmLeast (fun k => Y.2.2.2.2.2 k = X.2.2.2.2.2 t) Y.2.2.2.2.1 X.1 0 9 = tmLeast (fun k => X.2.2.2.2.2 k = X.2.2.2.2.2 t) X.2.2.2.2.1 X.1 0 9 := tmLeast_cg _ _ _ (fun y _ hy => ⟨by rw [e y (by omega)], ((h.2 y (by omega)).2.2.2.1).symm⟩)
  have e3 : tmCnt (fun k => tmHome X.1 Y.2.2.2.2.2 (Y.2.2.1 k) = X.2.2.2.2.2 t ∨ tmHome X.1 Y.2.2.2.2.2 (Y.2.2.2.1 k) = X.2.2.2.2.2 t) X.1 0 = tmCnt (fun k => tmHome X.1 X.2.2.2.2.2 (X.2.2.1 k) = X.2.2.2.2.2 t ∨ tmHome X.1 X.2.2.2.2.2 (X.2.2.2.1 k) = X.2.2.2.2.2 t) X.1 0 := tmCnt_congr _ _ (fun y _ hy => by rw [tmHome_cg e, tmHome_cg e, (h.2 y (by omega)).2.1, (h.2 y (by omega)).2.2.1])
  have e2 : costX Y (X.2.2.2.2.2 t) = costX X (X.2.2.2.2.2 t) := by
    unfold costX
    rw [h.1, fwN_row (fun k hk => ⟨(h.2 k hk).2.1, (h.2 k hk).2.2.1, e k hk⟩)]
  rw [e0, e1, e2, e3]
section S83
variable {S : tmS} {I : Nat → Nat → Int} {L : Nat → Nat → Int64}
/-- rows that nothing rests on may change -/
theorem CR.scr {I' : Nat → Nat → Int} {L' : Nat → Nat → Int64} {m m' : Nat} {A : AS} (h : CR S I L m A) (hm : m ≤ m') (e : ∀ a, (a ≤ 7 ∨ (14 ≤ a ∧ a ≤ 135) ∨ a = 143 ∨ a = 144 ∨ (154 ≤ a ∧ a ≤ 156) ∨ 167 ≤ a) → I' a = I a) (el : L' 145 = L 145) : CR S I' L' m' A ∧ MFr S I S I' := by
  obtain ⟨c1, c2, c3, c4, c5⟩ := h
  have pf : PatFr S I S I' := ⟨Nat.le_refl _, fun a a1 _ => ⟨rfl, rfl, rfl, e a (by omega)⟩⟩
  exact ⟨⟨c1, c2.fr pf (fun _ _ => rfl) (fun a ha => e a (by omega)) el, c3.fr pf (fun a a1 a2 => e a (by omega)) (fun _ _ _ => rfl), c4, c5.fr hm (fun a ha => e a (by omega)) (by rw [e 155 (by omega)]) (by rw [e 155 (by omega)]; exact c5.2.2.2.2.2)⟩, fun a a1 a2 => e a (by omega)⟩
set_option maxRecDepth 20000 in
theorem c_about {m : Nat} {A : AS} (h : CR S I L m A) (hm : m ≤ 1000) (t w : Int) (ht : inR t) (hw : inR w) : tmC yX11_about kX11_about 4 0 0 [tR 0, tI t, tI w] (S, I, L) (CPost S I (m + 1) (tI (spAbout A t w).1) (spAbout A t w).2) := by
  refine tmC.mk (lv := [some (tR 0), some (tI t), some (tI w), none]) 1 ⟨rfl, by decide +kernel, by decide⟩ rfl rfl ?_
  have hL := h.1
  have hT := h.2.1.tinv
  have hn5 := hT.2.1
  have o0 := oX0 hL
  have r0_0 := rX0_0 hL
  have r0_1 := rX0_1 hL
  have r0_2 := rX0_2 hL
  have r0_3 := rX0_3 hL
  have r0_4 := rX0_4 hL
  have r0_5 := rX0_5 hL
  have r0_6 := rX0_6 hL
  have r0_7 := rX0_7 hL
  have r0_8 := rX0_8 hL
  have o1 := oX1 hL
  have r1_0 := rX1_0 hL
  have r1_1 := rX1_1 hL
  have r1_3 := rX1_3 hL
  have o2 := oX2 hL
  have r2_1 := rX2_1 hL
  have r2_2 := rX2_2 hL
  have r2_3 := rX2_3 hL
  have r2_4 := rX2_4 hL
  have r2_5 := rX2_5 hL
  have o7 := oX7 hL
  have o133 := oX133 hL
  have r133_0 := rX133_0 hL
  have r133_1 := rX133_1 hL
  have r133_3 := rX133_3 hL
  have r133_5 := rX133_5 hL
  have r133_6 := rX133_6 hL
  have r133_7 := rX133_7 hL
  have hhas := c_has (L := L) hL hT.1 t ht
  have hrf := c_rf0 h hm
  by_cases c1 : isT A t
  · rw [if_pos c1] at hhas
    have c1' := c1.2
    have htn : t.toNat < A.1.1.1 := by have := c1.1; omega
    have hts := h.2.1.1.ts
    have hho := hT.2.2.2.1 t.toNat htn
    by_cases c2 : 0 ≤ w ∧ w ≤ 3
    · have e : spAbout A t w = (aboutX A.1.1 t.toNat w, A) := by unfold spAbout; rw [if_pos ⟨c1, c2⟩]
      rw [e, ← aboutX_cg hts htn w]
      have k0 := c_countIn (L := L) hL hT.1 hn5 (I 7 t.toNat) ⟨by omega, by omega⟩
      have k1 := c_leastGeneration (L := L) hL hT.1 hn5 (I 7 t.toNat) ⟨by omega, by omega⟩
      have k2 := c_fewestSigns (L := L) hL hT.1 hn5 hT.2.2.2.1 (I 7 t.toNat) ⟨by omega, by omega⟩
      have k3 := c_countUsers (L := L) hL hT.1 hn5 (I 7 t.toNat) ⟨by omega, by omega⟩
      refine wa_aload_n dX11_about_0 rfl ?_
      refine wt_getR dX11_about_1 FX11_10 (by assumption) (by assumption) ?_
      refine wt_getR dX11_about_4 FX11_32 (by assumption) (by assumption) ?_
      refine wa_iload_n dX11_about_7 rfl ?_
      refine wa_callVf (ci := 8) dX11_about_8 KX8_has LX11_92 ⟨_, _, rfl, by decide⟩ o2 (hhas) (by decide) rfl rfl (Nat.le_of_ble_eq_true rfl) rfl rfl ?_
      refine wa_if_ne 21 dX11_about_11 (by decide) (by first | exact hw | exact ⟨by omega, by omega⟩) (fun c_11 => ?_) (fun c_11 => ?_)
      · refine wa_aload_n dX11_about_21 rfl ?_
        refine wt_getR dX11_about_22 FX11_10 (by assumption) (by assumption) ?_
        refine wt_getR dX11_about_25 FX11_32 (by assumption) (by assumption) ?_
        refine wt_getR dX11_about_28 FX11_139 (by assumption) (by assumption) ?_
        refine wa_iload_n dX11_about_31 rfl ?_
        refine wt_iald t.toNat dX11_about_32 (by assumption) (by omega) (by omega) ?_
        refine wa_istore_n dX11_about_33 (by decide) ?_
        refine wa_iload_n dX11_about_34 rfl ?_
        by_cases h0 : w = 0
        · subst h0
          refine wa_tableIn 64 dX11_about_35 hw (by omega) (by omega) (off := 29) rfl (by decide) ?_
          refine wa_aload_n dX11_about_64 rfl ?_
          refine wt_getR dX11_about_65 FX11_10 (by assumption) (by assumption) ?_
          refine wt_getR dX11_about_68 FX11_32 (by assumption) (by assumption) ?_
          refine wa_iload_n dX11_about_71 rfl ?_
          refine wa_callVf (ci := 8) dX11_about_72 KX8_countIn LX11_145 ⟨_, _, rfl, by decide⟩ o2 (k0) (by decide) rfl rfl (Nat.le_of_ble_eq_true rfl) rfl rfl ?_
          refine wa_ireturn dX11_about_75 rfl ?_
          exact h.stay rfl rfl
        · by_cases h1 : w = 1
          · subst h1
            refine wa_tableIn 76 dX11_about_35 hw (by omega) (by omega) (off := 41) rfl (by decide) ?_
            refine wa_aload_n dX11_about_76 rfl ?_
            refine wt_getR dX11_about_77 FX11_10 (by assumption) (by assumption) ?_
            refine wt_getR dX11_about_80 FX11_32 (by assumption) (by assumption) ?_
            refine wa_iload_n dX11_about_83 rfl ?_
            refine wa_callVf (ci := 8) dX11_about_84 KX8_leastGeneration LX11_148 ⟨_, _, rfl, by decide⟩ o2 (k1) (by decide) rfl rfl (Nat.le_of_ble_eq_true rfl) rfl rfl ?_
            refine wa_ireturn dX11_about_87 rfl ?_
            exact h.stay rfl rfl
          · by_cases h2 : w = 2
            · subst h2
              refine wa_tableIn 88 dX11_about_35 hw (by omega) (by omega) (off := 53) rfl (by decide) ?_
              refine wa_aload_n dX11_about_88 rfl ?_
              refine wt_getR dX11_about_89 FX11_26 (by assumption) (by assumption) ?_
              refine wa_aload_n dX11_about_92 rfl ?_
              refine wt_getR dX11_about_93 FX11_10 (by assumption) (by assumption) ?_
              refine wt_getR dX11_about_96 FX11_32 (by assumption) (by assumption) ?_
              refine wa_iload_n dX11_about_99 rfl ?_
              refine wa_callV (ci := 5) dX11_about_100 KX5_fewestSigns LX11_151 ⟨_, _, rfl, by decide⟩ o133 (k2) (by decide) rfl (Nat.le_of_ble_eq_true rfl) rfl rfl (fun r h' hq => ?_)
              obtain ⟨mm, f1, f2, rfl, cc, rfl⟩ := hq
              refine wa_ireturn dX11_about_103 rfl ?_
              have hany := fw_any (on := I 4) (ot := I 5) hT.2.2.2.1 hn5 (c := fun _ => 1000000) (fun _ => rfl) (m := mm) (f1.imp id (fun hf x => by
                by_cases hx : x < 50
                · have q1 := fwN_cg (n := A.1.1.1) (on := I 4) (ot := I 5) (ho := I 7) (c := fun _ => 1000000) (d := tmFill (I 139) 50 1000000) (fun j hj => by have := hT.2.2.2.1 j hj; omega) (fun y hy => by simp [tmFill, hy]) (mm + 1) x hx
                  have q2 := fwN_cg (n := A.1.1.1) (on := I 4) (ot := I 5) (ho := I 7) (c := fun _ => 1000000) (d := tmFill (I 139) 50 1000000) (fun j hj => by have := hT.2.2.2.1 j hj; omega) (fun y hy => by simp [tmFill, hy]) mm x hx
                  have q3 := congrFun hf x
                  show fwN _ _ _ _ _ (mm + 1) x = _
                  rw [← q1, ← q2]; exact q3
                · exact fwRun_out _ _ _ _ (by omega) (fun j hj => by have := hT.2.2.2.1 j hj; omega) (by omega)))
              have hval : fwOf (fwN A.1.1.1 (I 4) (I 5) (I 7) (tmFill (I 139) 50 1000000) mm) (I 7 t.toNat) = aboutX (tsOf I A.1.1.1) t.toNat 2 := by
                show _ = costX (tsOf I A.1.1.1) (I 7 t.toNat)
                unfold costX fwOf
                rw [if_pos ⟨by omega, by omega⟩, if_pos ⟨by omega, by omega⟩]
                rw [fwN_cg (n := A.1.1.1) (on := I 4) (ot := I 5) (ho := I 7) (c := fun _ => 1000000) (d := tmFill (I 139) 50 1000000) (fun j hj => by have := hT.2.2.2.1 j hj; omega) (fun y hy => by simp [tmFill, hy]) mm _ (by omega)]
                exact hany _ (by omega)
              obtain ⟨s1, s2⟩ := h.scr (I' := va_up I 139 cc) (L' := L) (m' := m + 1) (by omega) (fun a ha => vup_n (by omega)) rfl
              exact ⟨by rw [hval], S, _, L, rfl, s1, s2⟩
            · obtain rfl : w = 3 := by omega
              refine wa_tableIn 104 dX11_about_35 hw (by omega) (by omega) (off := 69) rfl (by decide) ?_
              refine wa_aload_n dX11_about_104 rfl ?_
              refine wt_getR dX11_about_105 FX11_10 (by assumption) (by assumption) ?_
              refine wt_getR dX11_about_108 FX11_32 (by assumption) (by assumption) ?_
              refine wa_iload_n dX11_about_111 rfl ?_
              refine wa_callVf (ci := 8) dX11_about_112 KX8_countUsers LX11_155 ⟨_, _, rfl, by decide⟩ o2 (k3) (by decide) rfl rfl (Nat.le_of_ble_eq_true rfl) rfl rfl ?_
              refine wa_ireturn dX11_about_115 rfl ?_
              exact h.stay rfl rfl
      · omega
    · have e : spAbout A t w = (-2, aRf A 0) := by unfold spAbout; rw [if_neg (fun z => c2 z.2)]
      rw [e]
      refine wa_aload_n dX11_about_0 rfl ?_
      refine wt_getR dX11_about_1 FX11_10 (by assumption) (by assumption) ?_
      refine wt_getR dX11_about_4 FX11_32 (by assumption) (by assumption) ?_
      refine wa_iload_n dX11_about_7 rfl ?_
      refine wa_callVf (ci := 8) dX11_about_8 KX8_has LX11_92 ⟨_, _, rfl, by decide⟩ o2 (hhas) (by decide) rfl rfl (Nat.le_of_ble_eq_true rfl) rfl rfl ?_
      refine wa_if_ne 21 dX11_about_11 (by decide) (by first | exact hw | exact ⟨by omega, by omega⟩) (fun c_11 => ?_) (fun c_11 => ?_)
      · refine wa_aload_n dX11_about_21 rfl ?_
        refine wt_getR dX11_about_22 FX11_10 (by assumption) (by assumption) ?_
        refine wt_getR dX11_about_25 FX11_32 (by assumption) (by assumption) ?_
        refine wt_getR dX11_about_28 FX11_139 (by assumption) (by assumption) ?_
        refine wa_iload_n dX11_about_31 rfl ?_
        refine wt_iald t.toNat dX11_about_32 (by assumption) (by omega) (by omega) ?_
        refine wa_istore_n dX11_about_33 (by decide) ?_
        refine wa_iload_n dX11_about_34 rfl ?_
        refine wa_tableOut 116 dX11_about_35 hw (by omega) (by decide) ?_
        refine wa_aload_n dX11_about_116 rfl ?_
        refine wa_bipush dX11_about_117 rfl ?_
        refine wa_callV (ci := 11) dX11_about_119 KX11_refuse LX11_88 ⟨_, _, rfl, by decide⟩ o0 (hrf) (by decide) rfl (Nat.le_of_ble_eq_true rfl) rfl rfl (fun r h' hq => ?_)
        obtain ⟨rfl, hq⟩ := hq
        refine wa_ireturn dX11_about_122 rfl ?_
        exact ⟨rfl, hq⟩
      · omega
  · rw [if_neg c1] at hhas
    have e : spAbout A t w = (-2, aRf A 0) := by unfold spAbout; rw [if_neg (fun z => c1 z.1)]
    rw [e]
    refine wa_aload_n dX11_about_0 rfl ?_
    refine wt_getR dX11_about_1 FX11_10 (by assumption) (by assumption) ?_
    refine wt_getR dX11_about_4 FX11_32 (by assumption) (by assumption) ?_
    refine wa_iload_n dX11_about_7 rfl ?_
    refine wa_callVf (ci := 8) dX11_about_8 KX8_has LX11_92 ⟨_, _, rfl, by decide⟩ o2 (hhas) (by decide) rfl rfl (Nat.le_of_ble_eq_true rfl) rfl rfl ?_
    refine wa_if_ne 21 dX11_about_11 (by decide) (by first | exact hw | exact ⟨by omega, by omega⟩) (fun c_11 => ?_) (fun c_11 => ?_)
    · omega
    · refine wa_aload_n dX11_about_14 rfl ?_
      refine wa_bipush dX11_about_15 rfl ?_
      refine wa_callV (ci := 11) dX11_about_17 KX11_refuse LX11_88 ⟨_, _, rfl, by decide⟩ o0 (hrf) (by decide) rfl (Nat.le_of_ble_eq_true rfl) rfl rfl (fun r h' hq => ?_)
      obtain ⟨rfl, hq⟩ := hq
      refine wa_ireturn dX11_about_20 rfl ?_
      exact ⟨rfl, hq⟩
/-- all is settled: the class holds the closed state -/
theorem CR.fin {I3 : Nat → Nat → Int} {m : Nat} {Y : TS} {rl : RuL} {P : List (TS × RuL) × (Int × Int) × (Nat → Int) × (Nat → Int) × Nat × (Nat → Int)} (hL : LX S) (hY : TsOK Y) (hs : SaR I I3 Y) (hrl : RulesAt S I 1 rl) (hp : PastR S I P.1) (hpr : PRows S) (hm : MiscR I m P.2.1.1 P.2.1.2 P.2.2.1 P.2.2.2.1 P.2.2.2.2.1 P.2.2.2.2.2) : CR S I3 L m ((clX Y, rl), P) := by
  have e := hs.1
  have pf : PatFr S I S I3 := ⟨Nat.le_refl _, fun a a1 _ => ⟨rfl, rfl, rfl, e a (by omega) (by omega) (by omega) (by omega) (by omega)⟩⟩
  exact ⟨hL, hs.now hY hrl, hp.fr pf (fun a a1 a2 => e a (by omega) (by omega) (by omega) (by omega) (by omega)) (fun _ _ _ => rfl), hpr, hm.fr (Nat.le_refl _) (fun a ha => e a (by omega) (by omega) (by omega) (by omega) (by omega)) (by rw [e 155 (by decide) (by decide) (by decide) (by decide) (by decide)]) (by rw [e 155 (by decide) (by decide) (by decide) (by decide) (by decide)]; exact hm.2.2.2.2.2)⟩
/-- TERMS have changed; settleAll -/
theorem c_settleCR {m : Nat} {A : AS} (h : CR S I L m A) {J : Nat → Nat → Int} (e : ∀ a, (a < 1 ∨ 8 ≤ a) → J a = I a) {Y : TS} {rl : RuL} (hr : RowsEq J 2 Y) (hY : TsOK Y) (hrl : RulesAt S J 1 rl) : tmC yX11_settleAll kX11_settleAll 6 0 0 [tR 0] (S, J, L) (fun q h' => q = none ∧ ∃ I3, h' = (S, I3, L) ∧ CR S I3 L m ((clX Y, rl), A.2) ∧ MFr S I S I3 ∧ SaR J I3 Y) := by
  obtain ⟨c1, c2, c3, c4, c5⟩ := h
  obtain ⟨us, hus⟩ := c2.2.2.2.1
  have pf : PatFr S I S J := ⟨Nat.le_refl _, fun a a1 _ => ⟨rfl, rfl, rfl, e a (by omega)⟩⟩
  have hus' : PlOK J us := by unfold PlOK at hus ⊢; rw [e 133 (by omega), e 135 (by omega), e 134 (by omega)]; exact hus
  refine (c_settleAll c1 hr hY hus').weaken (fun q h' hq => ?_)
  obtain ⟨rfl, I3, rfl, hs⟩ := hq
  refine ⟨rfl, I3, rfl, CR.fin c1 hY hs hrl (c3.fr pf (fun a a1 a2 => e a (by omega)) (fun _ _ _ => rfl)) c4 (c5.fr (Nat.le_refl _) (fun a ha => e a (by omega)) (by rw [e 155 (by omega)]) (by rw [e 155 (by omega)]; exact c5.2.2.2.2.2)), fun a a1 a2 => ?_, hs⟩
  rw [hs.1 a (by omega) (by omega) (by omega) (by omega) (by omega)]
  exact e a (by omega)
end S83
