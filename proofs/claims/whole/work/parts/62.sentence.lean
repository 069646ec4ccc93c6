/-! ===== 62: Text.sentence ===== -/
def TxL (I I' : Nat → Nat → Int) : Prop := (∀ a, a ≠ 155 → a ≠ 157 → a ≠ 158 → a ≠ 159 → a ≠ 160 → a ≠ 161 → a ≠ 162 → a ≠ 163 → I' a = I a) ∧ ∀ k, k ≠ 7 → k ≠ 8 → I' 155 k = I 155 k
theorem TxFr.l {I I' : Nat → Nat → Int} (h : TxFr I I') : TxL I I' := ⟨h.1, h.2.1⟩
theorem TxL.trans {I J K : Nat → Nat → Int} (h : TxL I J) (g : TxL J K) : TxL I K := ⟨fun a a1 a2 a3 a4 a5 a6 a7 a8 => by rw [g.1 a a1 a2 a3 a4 a5 a6 a7 a8, h.1 a a1 a2 a3 a4 a5 a6 a7 a8], fun k k1 k2 => by rw [g.2 k k1 k2, h.2 k k1 k2]⟩
theorem TxL.at' {I I' : Nat → Nat → Int} (h : TxL I I') {a : Nat} (ha : a < 155 ∨ a = 156 ∨ 163 < a) : I' a = I a := h.1 a (by omega) (by omega) (by omega) (by omega) (by omega) (by omega) (by omega) (by omega)
/-- a sentence's LEFT or TERM, from what stands -/
abbrev snL (I : Nat → Nat → Int) (nb p : Nat) : Bool × Nat × ZS := rdS (I 156) nb 7 (0, I 158, I 159, I 160, I 161, I 162, I 163, p)
abbrev snP (I : Nat → Nat → Int) (nb p : Nat) : Nat := skp (I 156) nb (snL I nb p).2.2.2.2.2.2.2.2.2
abbrev snM (I : Nat → Nat → Int) (nb p : Nat) : Nat := tmLet (snL I nb p).2.2.2.1 (snL I nb p).2.2.1 0 0
abbrev snR (I : Nat → Nat → Int) (nb p : Nat) : Bool × Nat × ZS := rdS (I 156) nb 7 (zTo (snL I nb p).2.2 (tkP (I 156) nb (snP I nb p) 61))
section S62
variable {S : tmS} {I : Nat → Nat → Int} {L : Nat → Nat → Int64}
abbrev SnPost (S : tmS) (I : Nat → Nat → Int) (L : Nat → Nat → Int64) (n nb nr p : Nat) : Option tmV → tmH → Prop := fun q h' =>
  ((snL I nb p).1 = false ∧ q = some (tI 0) ∧ ∃ I' dp, h' = (S, I', L) ∧ TxL I I' ∧ ZH I' dp (snL I nb p).2.2) ∨
  ((snL I nb p).1 = true ∧
    ((byt (I 156) nb (snP I nb p) = 62 ∧ ∃ I1 dp, TxL I I1 ∧ ZH I1 dp (zTo (snL I nb p).2.2 (snP I nb p)) ∧ I1 157 1 = ((snL I nb p).2.2.1 : Int) ∧ RsPost S I1 L nb nr (snM I nb p) (zTo (snL I nb p).2.2 (snP I nb p)) q h') ∨
     (byt (I 156) nb (snP I nb p) ≠ 62 ∧ snM I nb p ≠ 0 ∧ q = some (tI 0) ∧ ∃ I' dp, h' = (S, I', L) ∧ TxL I I' ∧ ZH I' dp (zTo (snL I nb p).2.2 (snP I nb p))) ∨
     (byt (I 156) nb (snP I nb p) ≠ 62 ∧ snM I nb p = 0 ∧ tkB (I 156) nb (snP I nb p) 61 ∧ (snR I nb p).1 = false ∧ q = some (tI 0) ∧ ∃ I' dp, h' = (S, I', L) ∧ TxL I I' ∧ ZH I' dp (snR I nb p).2.2) ∨
     (byt (I 156) nb (snP I nb p) ≠ 62 ∧ snM I nb p = 0 ∧ tkB (I 156) nb (snP I nb p) 61 ∧ (snR I nb p).1 = true ∧ ∃ I1 dp, TxL I I1 ∧ ZH I1 dp (snR I nb p).2.2 ∧ I1 157 1 = ((snL I nb p).2.2.1 : Int) ∧ TsPost S I1 L n nb (snR I nb p).2.2.1 (snL I nb p).2.2.1 (snR I nb p).2.2.2.2.2.2.2.2.2 q h') ∨
     (byt (I 156) nb (snP I nb p) ≠ 62 ∧ snM I nb p = 0 ∧ ¬ tkB (I 156) nb (snP I nb p) 61 ∧ ∃ I1 dp, TxL I I1 ∧ ZH I1 dp (zTo (snL I nb p).2.2 (tkP (I 156) nb (snP I nb p) 61)) ∧ I1 157 1 = ((snL I nb p).2.2.1 : Int) ∧ TsPost S I1 L n nb (snL I nb p).2.2.1 (snL I nb p).2.2.1 (tkP (I 156) nb (snP I nb p) 61) q h')))
theorem one_WF {Z : ZS} {may dp : Nat} {P : Nat → Prop} (h : SdI 0 may dp Z P) : WFN Z.1 Z.2.1 Z.2.2.1 Z.2.2.2.1 ∧ WFS Z.1 Z.2.1 Z.2.2.1 Z.2.2.2.1 Z.2.2.2.2.1 := WF_of (fun i hi => ⟨_, _, h.2.1 i (by omega) hi⟩)
theorem two_WF {Z1 Z2 : ZS} {may m d1 d2 : Nat} {P1 P2 : Nat → Prop} (h1 : SdI 0 may d1 Z1 P1) (hk : ZKp Z1 Z2) (h2 : SdI Z1.1 m d2 Z2 P2) : WFN Z2.1 Z2.2.1 Z2.2.2.1 Z2.2.2.2.1 ∧ WFS Z2.1 Z2.2.1 Z2.2.2.1 Z2.2.2.2.1 Z2.2.2.2.2.1 := WF_of (fun i hi => by
  by_cases z : i < Z1.1
  · exact ⟨_, _, (h1.2.1 i (by omega) z).cg z hk.2⟩
  · exact ⟨_, _, h2.2.1 i (by omega) hi⟩)
theorem snL_ok {I : Nat → Nat → Int} {nb p : Nat} (hp : p ≤ nb) : ZI nb (snL I nb p).2.1 (snL I nb p).2.2 ∧ ((snL I nb p).1 = true → 0 < (snL I nb p).2.2.1 ∧ SdI 0 7 0 (snL I nb p).2.2 (fun j => j + 1 = (snL I nb p).2.2.1)) := by
  refine ⟨rdZ_inv 121 0 _ ⟨hp, Nat.zero_le _, fun k hk => by omega⟩, fun h => ?_⟩
  have := rdZ_tree (fr := 0) 121 0 (0, I 158, I 159, I 160, I 161, I 162, I 163, p) ⟨Nat.le_refl _, fun i _ i2 => by simp only at i2; omega, fun k hk => by omega, fun j _ j2 => by simp only at j2; omega⟩ h
  exact this.2
theorem snR_ok {I : Nat → Nat → Int} {nb p : Nat} (hp : p ≤ nb) : ZI nb (snR I nb p).2.1 (snR I nb p).2.2 ∧ ZKp (snL I nb p).2.2 (snR I nb p).2.2 ∧ ((snR I nb p).1 = true → (snL I nb p).2.2.1 < (snR I nb p).2.2.1 ∧ SdI (snL I nb p).2.2.1 7 0 (snR I nb p).2.2 (fun j => j + 1 = (snR I nb p).2.2.1)) := by
  have h1 := (snL_ok (I := I) hp).1
  have hs := skp_b (b := I 156) h1.1
  have ht := tkP_b (b := I 156) hs.2 (c := 61) (by decide)
  have hz : ZI nb 0 (zTo (snL I nb p).2.2 (tkP (I 156) nb (snP I nb p) 61)) := ⟨ht.2.1, by
    have := h1.2.1
    show (snL I nb p).2.2.1 + 0 ≤ tkP (I 156) nb (snP I nb p) 61
    exact Nat.le_trans (Nat.le_trans (Nat.le_trans (by omega) (Nat.le_trans (Nat.le_add_right _ _) this)) hs.1) ht.1, fun k hk => by omega⟩
  refine ⟨rdZ_inv 121 0 _ hz, ?_, fun h => ?_⟩
  · exact rdZ_keep (b := I 156) (n := nb) (may := 7) 121 0 (zTo (snL I nb p).2.2 (tkP (I 156) nb (snP I nb p) 61))
  · have := rdZ_tree (fr := (snL I nb p).2.2.1) 121 0 (zTo (snL I nb p).2.2 (tkP (I 156) nb (snP I nb p) 61)) ⟨Nat.le_refl _, fun i i1 i2 => by simp only [zTo] at i2; omega, fun k hk => by omega, fun j j1 j2 => by simp only [zTo] at j2; omega⟩ h
    exact this.2
end S62
