/-! ===== 58: Text.ruleSentence, whole ===== -/
theorem rsO_ok {b : Nat → Int} {n nr m : Nat} {Z : ZS} (hi : ZI n 0 Z) (h : (rsO b n nr m Z).1 = true) : nr < 6 ∧ ¬ (Z.1 = 1 ∧ m ≠ 0) ∧ ZI n 0 (zTo Z (tkP b n Z.2.2.2.2.2.2.2 62)) ∧ (rdS b n m (zTo Z (tkP b n Z.2.2.2.2.2.2.2 62))).1 = true ∧ (rsO b n nr m Z).2.1 = (rdS b n m (zTo Z (tkP b n Z.2.2.2.2.2.2.2 62))).2.2.1 ∧ (rsO b n nr m Z).2.1 ≤ n := by
  have hb := tkP_b (b := b) hi.1 (c := 62) (by decide)
  have hz : ZI n 0 (zTo Z (tkP b n Z.2.2.2.2.2.2.2 62)) := ⟨hb.2.1, by have := hi.2.1; show Z.1 + 0 ≤ tkP b n Z.2.2.2.2.2.2.2 62; omega, fun k hk => by omega⟩
  have hinv := rdZ_inv (b := b) (may := m) 121 0 _ hz
  unfold rsO at h ⊢
  by_cases hA : (Z.1 = 1 ∧ m ≠ 0) ∨ 6 ≤ nr
  · rw [if_pos hA] at h; cases h
  · rw [if_neg hA] at h ⊢
    by_cases ht : tkB b n Z.2.2.2.2.2.2.2 62
    · rw [if_pos ht] at h ⊢
      by_cases hr : (rdS b n m (zTo Z (tkP b n Z.2.2.2.2.2.2.2 62))).1 = true
      · rw [if_pos hr] at h ⊢
        refine ⟨by omega, fun q => hA (Or.inl q), hz, hr, rfl, ?_⟩
        have h1 := hinv.1
        have h2 := hinv.2.1
        show (rdS b n m (zTo Z (tkP b n Z.2.2.2.2.2.2.2 62))).2.2.1 ≤ n
        exact Nat.le_trans (Nat.le_trans (Nat.le_add_right _ _) h2) h1
      · rw [if_neg hr] at h; cases h
    · rw [if_neg ht] at h; cases h
section S58
variable {S : tmS} {L : Nat → Nat → Int64}
abbrev RsPost (S : tmS) (I : Nat → Nat → Int) (L : Nat → Nat → Int64) (n nr m : Nat) (Z : ZS) : Option tmV → tmH → Prop := fun q h' =>
  ((rsO (I 156) n nr m Z).1 = false ∧ q = some (tI 0) ∧ ∃ I' dp', h' = (S, I', L) ∧ TxFr I I' ∧ ZH I' dp' (rsO (I 156) n nr m Z).2) ∨
  ((rsO (I 156) n nr m Z).1 = true ∧ q = some (tI 1) ∧ ∃ I1 dp' S2 I2 L2, TxFr I I1 ∧ ZH I1 dp' (rsO (I 156) n nr m Z).2 ∧ tmFr S.1 (S, I1, L) (S2, I2, L2) ∧ S2.1 = S.1 + 5 ∧ LPat S2 S.1 (rsO (I 156) n nr m Z).2.1 ∧ PatEq I1 I2 S.1 157 (rsO (I 156) n nr m Z).2.1 ∧ h' = ((S2.1, S2.2.1, S2.2.2.1, va_up S2.2.2.2 8 (va_up (S2.2.2.2 8) nr (some S.1))), va_up I2 1 (va_up (I2 1) 2 (nr + 1 : Nat)), L2))
theorem c_ruleSentence (hL : LX S) {n nr m dp bc bs : Nat} (hn1 : n ≤ 120) (hm : m < 8) {I : Nat → Nat → Int} {Z : ZS} (hn : I 155 1 = (n : Int)) (hz : ZH I dp Z) (hi : ZI n 0 Z) (hlf : I 157 1 = (Z.1 : Int)) (hnr : I 1 2 = (nr : Int)) (hnr6 : nr ≤ 6) (hbd : (rsO (I 156) n nr m Z).1 = true → 5 ≤ bc ∧ 486 ≤ bs) :
    tmC yX9_ruleSentence kX9_ruleSentence 7 bc bs [tR 155, tI m] (S, I, L) (RsPost S I L n nr m Z) := by
  refine tmC.mk (lv := [some (tR 155), some (tI m), none]) 1 ⟨rfl, by decide +kernel, by decide⟩ rfl rfl ?_
  refine rule_head hL hn1 hm hn hz hi hlf hnr hnr6 _ (fun h I' dp' f1 f2 => Or.inl ⟨h, rfl, I', dp', rfl, f1, f2⟩) (fun h I' dp' x f1 f2 => ?_)
  obtain ⟨k1, k2, k3, k4, k5, k6⟩ := rsO_ok hi h
  refine wa_budget (hbd h).1 (hbd h).2 ?_
  exact rule_tail hL f2.2.1 (by omega) (by rw [f1.1 1 (by decide) (by decide) (by decide) (by decide) (by decide) (by decide) (by decide) (by decide)]; exact hnr) k1 x _ (fun S2 I2 L2 g1 g2 g3 g4 => Or.inr ⟨h, rfl, I', dp', S2, I2, L2, f1, f2, g1, g2, g3, g4, rfl⟩)
end S58
