/-! ===== 99zp: the start: LX, CR and MR of what the constructors made ===== -/
def K12 : List (Nat × Nat) := K11 ++ (12, 0) :: xkM
def R12 : List (Nat × Nat × Nat) := R11 ++ xrM 168 169
def S12 : tmS := HB K12 R12
def I12 : Nat → Nat → Int := va_up (va_up I11 172 (va_up (I11 172) 0 0)) 172 (va_up ((va_up I11 172 (va_up (I11 172) 0 0)) 172) 1 3)
set_option maxRecDepth 20000 in
theorem LX12 : LX S12 := by
  refine ⟨by decide +kernel, by decide +kernel, by decide +kernel⟩
set_option maxRecDepth 20000 in
theorem PR12a : ∀ r, r < 6 → S12.2.2.2 8 r = some 9 := by decide +kernel
set_option maxRecDepth 20000 in
theorem PR12b : ∀ k, k < 9 → ∀ r, r < 6 → S12.2.2.2 (16 + 13 * k + 7) r = some (16 + 13 * k + 8) := by decide +kernel
set_option maxRecDepth 20000 in
theorem PR12c : ∀ k, k < 9 → 16 + 13 * k + 8 < S12.1 ∧ S12.2.1 (16 + 13 * k + 8) = 2 := by decide +kernel
set_option maxRecDepth 20000 in
theorem PR12 : PRows S12 := by
  refine ⟨fun r hr => ⟨9, PR12a r hr, oX9 LX12⟩, fun k hk r hr => ⟨_, PR12b k hk r hr, PR12c k hk⟩⟩
def A00 : AS := (((0, (fun _ => 0), (fun _ => 0), (fun _ => 0), (fun _ => 0), fun _ => 0), []), [], (0, 3), (fun _ => 0), (fun _ => 0), 0, fun _ => 0)
set_option maxRecDepth 20000 in
theorem I12_134 {K : Nat} (hK : K < 2604) : I12 134 K = -1 := by
  show tmFill (I00 134) 2604 (-1) K = -1
  unfold tmFill
  rw [if_pos hK]
set_option maxRecDepth 20000 in
theorem CR12 : CR S12 I12 L00 0 A00 := by
  refine ⟨LX12, ⟨⟨rfl, fun t ht => absurd ht (Nat.not_lt_zero t)⟩, ⟨⟨by decide, fun t ht => absurd ht (Nat.not_lt_zero t), fun t ht => absurd ht (Nat.not_lt_zero t), fun t ht => absurd ht (Nat.not_lt_zero t)⟩, fun t u ht => absurd ht (Nat.not_lt_zero t)⟩, ⟨fun j hj => absurd hj (Nat.not_lt_zero j), fun K hK h => absurd (I12_134 hK) h⟩, ⟨0, by decide, rfl, fun i hi => absurd hi (Nat.not_lt_zero i), fun K hK h => absurd (I12_134 hK) h⟩, ⟨rfl, by decide, fun r w hw => by cases hw⟩, fun r hr => absurd hr (Nat.not_lt_zero r)⟩, ⟨0, rfl, by decide, rfl, by decide, fun i st hi => by cases hi⟩, PR12, ⟨rfl, by decide, by decide⟩, ⟨rfl, by decide, by decide⟩, fun j hj => ⟨?_, Int.le_refl _, Int.le_refl _⟩, fun j hj => ?_, ⟨rfl, by decide, fun i hi => absurd hi (Nat.not_lt_zero i)⟩, ⟨0, rfl⟩⟩
  · rfl
  · rfl
set_option maxRecDepth 20000 in
theorem MR12 : MR I12 A00 := by
  refine ⟨⟨⟨rfl, fun t ht => absurd ht (Nat.not_lt_zero t)⟩, rfl, fun r w hw => by cases hw⟩, rfl, fun i st hi => (by cases hi), ⟨rfl, rfl⟩, fun j hj => rfl, fun j hj => rfl, rfl, fun i hi => absurd hi (Nat.not_lt_zero i)⟩
-- the class hangs on its own cells alone
set_option maxRecDepth 20000 in
theorem CR.cfr {S : tmS} {I I' : Nat → Nat → Int} {L : Nat → Nat → Int64} {m : Nat} {A : AS} (h : CR S I L m A) (f : CFr I I') : CR S I' L m A := by
  obtain ⟨c1, c2, c3, c4, c5⟩ := h
  have hp : PatFr S I S I' := ⟨Nat.le_refl _, fun a h1 _ => ⟨rfl, rfl, rfl, f a (Or.inr h1)⟩⟩
  obtain ⟨k1, k2, k3, k4, k5, k6⟩ := id c5
  refine ⟨c1, c2.fr hp (fun _ _ => rfl) (fun a ha => f a (Or.inl (by omega))) rfl, c3.fr hp (fun a h1 h2 => f a (Or.inl (by omega))) (fun _ _ _ => rfl), c4, c5.fr (Nat.le_refl _) (fun a ha => f a (Or.inl (by omega))) (by rw [f 155 (Or.inl (by omega))]) (by rw [f 155 (Or.inl (by omega))]; exact k6)⟩
set_option maxRecDepth 20000 in
theorem MR.mfr {S S' : tmS} {I I' : Nat → Nat → Int} {A : AS} (h : MR I A) (f : MFr S I S' I') : MR I' A := by
  obtain ⟨h1, h2, h3, h4, h5, h6, h7, h8⟩ := h
  refine ⟨?_, ?_, ?_, ?_, ?_, ?_, ?_, ?_⟩
  · rw [f 169 (by omega) (by omega)]; exact h1
  · rw [f 168 (by omega) (by omega)]; exact h2
  · rw [f 170 (by omega) (by omega)]; exact h3
  · rw [f 172 (by omega) (by omega)]; exact h4
  · rw [f 175 (by omega) (by omega)]; exact h5
  · rw [f 173 (by omega) (by omega)]; exact h6
  · rw [f 168 (by omega) (by omega)]; exact h7
  · rw [f 176 (by omega) (by omega)]; exact h8
