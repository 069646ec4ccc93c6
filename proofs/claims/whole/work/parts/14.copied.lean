/-! ===== 14: Pattern.copied; class Findings ===== -/
section P14
variable {S : tmS} {I : Nat → Nat → Int} {L : Nat → Nat → Int64}
theorem LPat.fr {h h' : tmH} {q m n0 : Nat} (hp : LPat h.1 q m) (hf : tmFr n0 h h') (hq : q + 4 < n0) (hn : h.1.1 ≤ h'.1.1) : LPat h'.1 q m := by
  obtain ⟨⟨a0, a0'⟩, a1, a2, a3, a4, ⟨b1, b1', b1'', c⟩, ⟨b2, b2', b2'', -⟩, ⟨b3, b3', b3'', -⟩, ⟨b4, b4', b4'', -⟩⟩ := hp
  have f0 := hf q (by omega)
  have f1 := hf (q + 1) (by omega)
  have f2 := hf (q + 2) (by omega)
  have f3 := hf (q + 3) (by omega)
  have f4 := hf (q + 4) (by omega)
  simp only [LPat, tmObj, tmArr, f0.1, f0.2.2.1, f1.1, f1.2.1, f2.1, f2.2.1, f3.1, f3.2.1, f4.1, f4.2.1]
  exact ⟨⟨by omega, a0'⟩, a1, a2, a3, a4, ⟨by omega, b1', b1'', c⟩, ⟨by omega, b2', b2'', c⟩, ⟨by omega, b3', b3'', c⟩, ⟨by omega, b4', b4'', c⟩⟩
/-- the Pattern at p holds what that at q held -/
def PatEq (I I' : Nat → Nat → Int) (p q sz : Nat) : Prop := I' p 0 = I q 0 ∧ I' p 1 = I q 1 ∧ ∀ j, 1 ≤ j → j ≤ 4 → ∀ i, i < sz → I' (p + j) i = I (q + j) i
set_option maxRecDepth 20000 in
set_option maxHeartbeats 2000000 in
theorem c_copied {q m sz : Nat} (hp : LPat S q m) (hsz : I q 0 = (sz : Int)) (hsm : sz ≤ m) (hm : m ≤ 120) (hq : q + 4 < S.1) : tmC yX2_copied kX2_copied 3 5 (4 * sz + 6) [tR q] (S, I, L) (fun r h' => r = some (tR S.1) ∧ tmFr S.1 (S, I, L) h' ∧ h'.1.1 = S.1 + 5 ∧ LPat h'.1 S.1 sz ∧ PatEq I h'.2.1 S.1 q sz) := by
  refine tmC.mk (lv := [some (tR q), none]) 1 ⟨rfl, by decide +kernel, by decide⟩ rfl rfl ?_
  refine wt_ir (fun hI => ?_)
  have hq0 := hp.1
  have hn := hq0.1
  refine wa_new dX2_copied_0 CL2 NX2_10 IX2 JX2 rfl rfl ?_
  refine wa_dup dX2_copied_3 rfl ?_
  refine wa_aload_n dX2_copied_4 rfl ?_
  refine wt_getI dX2_copied_5 FX2_9 (by constructor <;> simp (disch := omega) [tmNew, vup_n, hq0.2] <;> omega) ?_
  rw [show (va_up (S, I, L).2.1 (S, I, L).1.1 (fun _ => 0) q 0) = (sz : Int) by simp (disch := omega) only [vup_n]; exact hsz]
  refine wa_callI dX2_copied_8 KX2_init LX2_41 (c_Pinit (m := sz) ⟨by simp, by simp [vup_s]⟩ rfl (by omega)) (by decide) rfl (Nat.le_of_ble_eq_true rfl) rfl (Nat.zero_add _) (fun r h' hq => ?_)
  obtain ⟨rfl, hf, hn', hpp, h0, h1⟩ := hq
  obtain ⟨S', I', L'⟩ := h'
  have hf2 : tmFr S.1 (S, I, L) (S', I', L') := fun a ha => by
    have := hf a ha
    simp (disch := omega) only [vup_n] at this
    exact this
  have hq' := hp.fr (h' := (S', I', L')) hf2 hq (by simp at hn'; simp; omega)
  obtain ⟨a0, a1, a2, a3, a4, b1, b2, b3, b4⟩ := hq'
  obtain ⟨g0, g1, g2, g3, g4, k1, k2, k3, k4⟩ := hpp
  have eI : ∀ a, a < S.1 → I' a = I a := fun a ha => (hf2 a ha).2.2.2.1
  have es : I' q 0 = (sz : Int) := by rw [eI q (by omega)]; exact hsz
  refine wt_ir (fun hI2 => ?_)
  refine wa_astore_n dX2_copied_11 (by decide) ?_
  refine wa_aload_n dX2_copied_12 rfl ?_
  refine wt_getR dX2_copied_13 FX2_24 (by assumption) (by assumption) ?_
  refine wa_iconst dX2_copied_16 ?_
  refine wa_aload_n dX2_copied_17 rfl ?_
  refine wt_getR dX2_copied_18 FX2_24 (by assumption) (by assumption) ?_
  refine wa_iconst dX2_copied_21 ?_
  refine wa_aload_n dX2_copied_22 rfl ?_
  refine wt_getI dX2_copied_23 FX2_9 (by assumption) ?_
  refine wt_copy dX2_copied_26 LX2_44 Cnat Csta Cini (by assumption) (by assumption) (sp := 0) (dp := 0) (n := sz) rfl rfl (by first | exact es | (simp (disch := omega) only [vup_n]; exact es)) (by omega) (by omega) (by decide) (Nat.le_of_ble_eq_true rfl) ?_
  refine wa_aload_n dX2_copied_29 rfl ?_
  refine wt_getR dX2_copied_30 FX2_28 (by assumption) (by assumption) ?_
  refine wa_iconst dX2_copied_33 ?_
  refine wa_aload_n dX2_copied_34 rfl ?_
  refine wt_getR dX2_copied_35 FX2_28 (by assumption) (by assumption) ?_
  refine wa_iconst dX2_copied_38 ?_
  refine wa_aload_n dX2_copied_39 rfl ?_
  refine wt_getI dX2_copied_40 FX2_9 (by assumption) ?_
  refine wt_copy dX2_copied_43 LX2_44 Cnat Csta Cini (by assumption) (by assumption) (sp := 0) (dp := 0) (n := sz) rfl rfl (by first | exact es | (simp (disch := omega) only [vup_n]; exact es)) (by omega) (by omega) (by decide) (Nat.le_of_ble_eq_true rfl) ?_
  refine wa_aload_n dX2_copied_46 rfl ?_
  refine wt_getR dX2_copied_47 FX2_31 (by assumption) (by assumption) ?_
  refine wa_iconst dX2_copied_50 ?_
  refine wa_aload_n dX2_copied_51 rfl ?_
  refine wt_getR dX2_copied_52 FX2_31 (by assumption) (by assumption) ?_
  refine wa_iconst dX2_copied_55 ?_
  refine wa_aload_n dX2_copied_56 rfl ?_
  refine wt_getI dX2_copied_57 FX2_9 (by assumption) ?_
  refine wt_copy dX2_copied_60 LX2_44 Cnat Csta Cini (by assumption) (by assumption) (sp := 0) (dp := 0) (n := sz) rfl rfl (by first | exact es | (simp (disch := omega) only [vup_n]; exact es)) (by omega) (by omega) (by decide) (Nat.le_of_ble_eq_true rfl) ?_
  refine wa_aload_n dX2_copied_63 rfl ?_
  refine wt_getR dX2_copied_64 FX2_34 (by assumption) (by assumption) ?_
  refine wa_iconst dX2_copied_67 ?_
  refine wa_aload_n dX2_copied_68 rfl ?_
  refine wt_getR dX2_copied_69 FX2_34 (by assumption) (by assumption) ?_
  refine wa_iconst dX2_copied_72 ?_
  refine wa_aload_n dX2_copied_73 rfl ?_
  refine wt_getI dX2_copied_74 FX2_9 (by assumption) ?_
  refine wt_copy dX2_copied_77 LX2_44 Cnat Csta Cini (by assumption) (by assumption) (sp := 0) (dp := 0) (n := sz) rfl rfl (by first | exact es | (simp (disch := omega) only [vup_n]; exact es)) (by omega) (by omega) (by decide) (Nat.le_of_ble_eq_true rfl) ?_
  refine wa_aload_n dX2_copied_80 rfl ?_
  refine wa_aload_n dX2_copied_81 rfl ?_
  refine wt_getI dX2_copied_82 FX2_9 (by assumption) ?_
  refine wt_putI dX2_copied_85 FX2_9 (WX2_0 _ _) (by assumption) (by first | exact hI2 _ _ | (simp (disch := omega) only [vup_n, vup_s]; exact hI2 _ _)) ?_
  refine wa_aload_n dX2_copied_88 rfl ?_
  refine wa_aload_n dX2_copied_89 rfl ?_
  refine wt_getI dX2_copied_90 FX2_15 (by assumption) ?_
  refine wt_putI dX2_copied_93 FX2_15 (WX2_1 _ _) (by assumption) (by first | exact hI2 _ _ | (simp (disch := omega) only [vup_n, vup_s]; exact hI2 _ _)) ?_
  refine wa_aload_n dX2_copied_96 rfl ?_
  refine wa_areturn dX2_copied_97 rfl ?_
  refine ⟨rfl, ?_, hn', ?_, ?_⟩
  · intro a ha
    have := hf2 a ha
    simp (disch := omega) only [vup_n]
    exact this
  · exact ⟨g0, g1, g2, g3, g4, k1, k2, k3, k4⟩
  · refine ⟨?_, ?_, ?_⟩
    · simp (disch := omega) only [vup_n, vup_s]; rw [eI q (by omega)]
    · simp (disch := omega) only [vup_n, vup_s]; rw [eI q (by omega)]
    · intro j j1 j4 i hi
      obtain rfl | rfl | rfl | rfl : j = 1 ∨ j = 2 ∨ j = 3 ∨ j = 4 := by omega
      · simp (disch := omega) only [vup_n, vup_s, cpy50 hi]; rw [eI (q + 1) (by omega)]
      · simp (disch := omega) only [vup_n, vup_s, cpy50 hi]; rw [eI (q + 2) (by omega)]
      · simp (disch := omega) only [vup_n, vup_s, cpy50 hi]; rw [eI (q + 3) (by omega)]
      · simp (disch := omega) only [vup_n, vup_s, cpy50 hi]; rw [eI (q + 4) (by omega)]
end P14
