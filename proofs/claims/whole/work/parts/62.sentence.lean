/-! ===== 62: Text.sentence ===== -/
def TxL (I I' : Nat → Nat → Int) : Prop := (∀ a, a ≠ 155 → a ≠ 157 → a ≠ 158 → a ≠ 159 → a ≠ 160 → a ≠ 161 → a ≠ 162 → a ≠ 163 → I' a = I a) ∧ ∀ k, k ≠ 7 → k ≠ 8 → I' 155 k = I 155 k
theorem TxFr.l {I I' : Nat → Nat → Int} (h : TxFr I I') : TxL I I' := ⟨h.1, h.2.1⟩
theorem TxL.trans {I J K : Nat → Nat → Int} (h : TxL I J) (g : TxL J K) : TxL I K := ⟨fun a a1 a2 a3 a4 a5 a6 a7 a8 => by rw [g.1 a a1 a2 a3 a4 a5 a6 a7 a8, h.1 a a1 a2 a3 a4 a5 a6 a7 a8], fun k k1 k2 => by rw [g.2 k k1 k2, h.2 k k1 k2]⟩
theorem TxL.at' {I I' : Nat → Nat → Int} (h : TxL I I') {a : Nat} (ha : a < 155 ∨ a = 156 ∨ 163 < a) : I' a = I a := h.1 a (by omega) (by omega) (by omega) (by omega) (by omega) (by omega) (by omega) (by omega)
/-- a sentence's LEFT or TERM, from what stands -/
abbrev snL (I : Nat → Nat → Int) (nb p : Nat) : Bool × Nat × ZS := rdS (I 156) nb 7 (0, I 158, I 159, I 160, I 161, I 162, I 163, p)
abbrev snP (I : Nat → Nat → Int) (nb p : Nat) : Nat := skp (I 156) nb (snL I nb p).2.2.2.2.2.2.2.2.2
abbrev snM (I : Nat → Nat → Int) (nb p : Nat) : Nat := tmLet (snL I nb p).2.2.2.1 (snL I nb p).2.2.1 0 0
abbrev snR (I : Nat → Nat → Int) (nb p : Nat) : Bool × Nat × ZS := rdS (I 156) nb 7 (zTo (snL I nb p).2.2 (tkP (I 156) nb (snP I nb p) 61))
section S62
variable {S : tmS} {I : Nat → Nat → Int} {L : Nat → Nat → Int64}
abbrev SnPost (S : tmS) (I : Nat → Nat → Int) (L : Nat → Nat → Int64) (n nb nr p : Nat) : Option tmV → tmH → Prop := fun q h' =>
  ((snL I nb p).1 = false ∧ q = some (tI 0) ∧ ∃ I' dp, h' = (S, I', L) ∧ TxL I I' ∧ ZH I' dp (snL I nb p).2.2) ∨
  ((snL I nb p).1 = true ∧
    ((byt (I 156) nb (snP I nb p) = 62 ∧ ∃ I1 dp, TxL I I1 ∧ ZH I1 dp (zTo (snL I nb p).2.2 (snP I nb p)) ∧ I1 157 1 = ((snL I nb p).2.2.1 : Int) ∧ RsPost S I1 L nb nr (snM I nb p) (zTo (snL I nb p).2.2 (snP I nb p)) q h') ∨
     (byt (I 156) nb (snP I nb p) ≠ 62 ∧ snM I nb p ≠ 0 ∧ q = some (tI 0) ∧ ∃ I' dp, h' = (S, I', L) ∧ TxL I I' ∧ ZH I' dp (zTo (snL I nb p).2.2 (snP I nb p))) ∨
     (byt (I 156) nb (snP I nb p) ≠ 62 ∧ snM I nb p = 0 ∧ tkB (I 156) nb (snP I nb p) 61 ∧ (snR I nb p).1 = false ∧ q = some (tI 0) ∧ ∃ I' dp, h' = (S, I', L) ∧ TxL I I' ∧ ZH I' dp (snR I nb p).2.2) ∨
     (byt (I 156) nb (snP I nb p) ≠ 62 ∧ snM I nb p = 0 ∧ tkB (I 156) nb (snP I nb p) 61 ∧ (snR I nb p).1 = true ∧ ∃ I1 dp, TxL I I1 ∧ ZH I1 dp (snR I nb p).2.2 ∧ I1 157 1 = ((snL I nb p).2.2.1 : Int) ∧ TsPost S I1 L n nb (snR I nb p).2.2.1 (snL I nb p).2.2.1 (snR I nb p).2.2.2.2.2.2.2.2.2 q h') ∨
     (byt (I 156) nb (snP I nb p) ≠ 62 ∧ snM I nb p = 0 ∧ ¬ tkB (I 156) nb (snP I nb p) 61 ∧ ∃ I1 dp, TxL I I1 ∧ ZH I1 dp (zTo (snL I nb p).2.2 (tkP (I 156) nb (snP I nb p) 61)) ∧ I1 157 1 = ((snL I nb p).2.2.1 : Int) ∧ TsPost S I1 L n nb (snL I nb p).2.2.1 (snL I nb p).2.2.1 (tkP (I 156) nb (snP I nb p) 61) q h')))
end S62
