/-! ===== 21: Standing.sweep and settle, their contracts ===== -/
/-- which rows settling may change -/
def StFr (I I' : Nat → Nat → Int) : Prop := ∀ a, a ≠ 7 → a ≠ 133 → a ≠ 134 → a ≠ 135 → I' a = I a
def SwR (n : Nat) (I I' : Nat → Nat → Int) (u : Int) : Prop := StFr I I' ∧ Just n (I 3) (I 4) (I 5) (I 7) (I' 7) ∧ (∃ us, PlOK I' us) ∧ ((u = 0 ∧ I' 7 = I 7 ∧ TabOK n (I 3) (I 4) (I 5) (I 7) (I' 134)) ∨ (u = 1 ∧ nCls n (I' 7) < nCls n (I 7)))
/-- settled: CLASSES are closed, the table tells them -/
def StR (n : Nat) (I I' : Nat → Nat → Int) : Prop := StFr I I' ∧ IsCl n (I 3) (I 4) (I 5) (I 7) (I' 7) ∧ (∃ us, PlOK I' us) ∧ TabOK n (I 3) (I 4) (I 5) (I' 7) (I' 134)
section S21
variable {S : tmS} {I : Nat → Nat → Int} {L : Nat → Nat → Int64}
set_option maxRecDepth 20000 in
theorem c_sweep (hL : LX S) {n : Nat} (hn : I 2 0 = (n : Int)) (hn5 : n ≤ 50) (hw : WFT n (I 3) (I 4) (I 5)) (hh : HO n (I 7)) {us : Nat} (hp : PlOK I us) : tmC yX5_sweep kX5_sweep 4 0 0 [tR 133, tR 2] (S, I, L) (fun r h' => ∃ I' u, r = some (tI u) ∧ h' = (S, I', L) ∧ SwR n I I' u) := by
  refine tmC.mk (lv := [some (tR 133), some (tR 2), none, none, none]) 3 ⟨rfl, by decide +kernel, by decide⟩ rfl rfl ?_
  have o133 := oX133 hL
  have r133_0 := rX133_0 hL
  have r133_1 := rX133_1 hL
  have r133_3 := rX133_3 hL
  have r133_5 := rX133_5 hL
  have r133_6 := rX133_6 hL
  have r133_7 := rX133_7 hL
  refine wa_aload_n dX5_sweep_0 rfl ?_
  refine wa_callV (ci := 5) dX5_sweep_1 KX5_emptyPlaces LX5_49 ⟨_, _, rfl, by decide⟩ o133 (c_emptyPlaces hL hp) (by decide) rfl (Nat.le_of_ble_eq_true rfl) rfl rfl (fun r h' hq => ?_)
  obtain ⟨rfl, I1, rfl, p1, p2, p3⟩ := hq
  refine wa_iconst dX5_sweep_4 ?_
  refine wa_istore_n dX5_sweep_5 (by decide) ?_
  refine wa_iconst dX5_sweep_6 ?_
  refine wa_istore_n dX5_sweep_7 (by decide) ?_
  have f7 := p3 7 (by decide) (by decide)
  have f3 := p3 3 (by decide) (by decide)
  have f4 := p3 4 (by decide) (by decide)
  have f5 := p3 5 (by decide) (by decide)
  have f2 := p3 2 (by decide) (by decide)
  have st : SwI n I1 I1 0 0 := ⟨fun _ _ _ _ _ => rfl, Just.refl (by rw [f7]; exact hh), ⟨0, by omega, p1⟩, fun K hK h => absurd (p2 K hK) h, Or.inl ⟨rfl, rfl, fun j hj => by omega, fun K hK h => absurd (p2 K hK) h⟩⟩
  refine (sweep_loop (I := I1) hL (by rw [f2]; exact hn) hn5 (by rw [f3, f4, f5]; exact hw) n 0 0 none I1 (by omega) st).wk ?_
  rintro r h' ⟨I', u, rfl, rfl, q1, q2, ⟨us', -, q3⟩, q4, q5⟩
  rw [f3, f4, f5, f7] at q2 q5
  refine ⟨I', u, rfl, rfl, fun a a1 a2 a3 a4 => by rw [q1 a a1 a2 a3 a4]; exact p3 a a2 a3, q2, ⟨us', q3⟩, ?_⟩
  rcases q5 with ⟨e1, e2, e3, e4⟩ | e
  · exact Or.inl ⟨e1, e2, e3, e4⟩
  · exact Or.inr e
theorem settle_end {n : Nat} {I' : Nat → Nat → Int} {x : Int} (h : StR n I I') : tmW kX5_settle 5 0 0 4 [some (tR 133), some (tR 2), some (tI 0), some (tI x)] [] (S, I', L) (fun r h' => r = none ∧ ∃ I', h' = (S, I', L) ∧ StR n I I') := by
  refine wa_iload_n dX5_settle_4 rfl ?_
  refine wa_if_eq 26 dX5_settle_5 (by decide) (by exact ⟨by omega, by omega⟩) (fun c_5 => ?_) (fun c_5 => ?_)
  · refine wa_return dX5_settle_26 rfl ?_
    exact ⟨rfl, I', rfl, h⟩
  · omega
set_option maxRecDepth 20000 in
theorem settle_loop (hL : LX S) {n : Nat} (hn : I 2 0 = (n : Int)) (hn5 : n ≤ 50) (hw : WFT n (I 3) (I 4) (I 5)) : ∀ (k j : Nat) (I' : Nat → Nat → Int), j + k = 51 → nCls n (I' 7) + j ≤ 50 → StFr I I' → Just n (I 3) (I 4) (I 5) (I 7) (I' 7) → (∃ us, PlOK I' us) →
    tmW kX5_settle 5 0 0 4 [some (tR 133), some (tR 2), some (tI 1), some (tI j)] [] (S, I', L) (fun r h' => r = none ∧ ∃ I', h' = (S, I', L) ∧ StR n I I') := by
  intro k
  have o133 := oX133 hL
  have r133_0 := rX133_0 hL
  have r133_1 := rX133_1 hL
  have r133_3 := rX133_3 hL
  have r133_5 := rX133_5 hL
  have r133_6 := rX133_6 hL
  have r133_7 := rX133_7 hL
  induction k with
  | zero => intro j I' hj hc; omega
  | succ k ih =>
    intro j I' hj hc hf hJ hp
    obtain ⟨us, hp⟩ := hp
    have f2 := hf 2 (by decide) (by decide) (by decide) (by decide)
    have f3 := hf 3 (by decide) (by decide) (by decide) (by decide)
    have f4 := hf 4 (by decide) (by decide) (by decide) (by decide)
    have f5 := hf 5 (by decide) (by decide) (by decide) (by decide)
    refine wa_iload_n dX5_settle_4 rfl ?_
    refine wa_if_eq 26 dX5_settle_5 (by decide) (by exact ⟨by omega, by omega⟩) (fun c_5 => ?_) (fun c_5 => ?_)
    · omega
    · refine wa_iload_n dX5_settle_8 rfl ?_
      refine wa_bipush dX5_settle_9 rfl ?_
      refine wa_icmp_gt 26 dX5_settle_11 (by decide) (by exact ⟨by omega, by omega⟩) (by exact ⟨by omega, by omega⟩) (fun c_11 => ?_) (fun c_11 => ?_)
      · omega
      · refine wa_aload_n dX5_settle_14 rfl ?_
        refine wa_aload_n dX5_settle_15 rfl ?_
        refine wa_callV (ci := 5) dX5_settle_16 KX5_sweep LX5_45 ⟨_, _, rfl, by decide⟩ o133 (c_sweep hL (by rw [f2]; exact hn) hn5 (by rw [f3, f4, f5]; exact hw) hJ.1 hp) (by decide) rfl (Nat.le_of_ble_eq_true rfl) rfl rfl (fun r h' hq => ?_)
        obtain ⟨I2, u, rfl, rfl, q1, q2, q3, q4⟩ := hq
        rw [f3, f4, f5] at q2 q4
        have ff : StFr I I2 := fun a a1 a2 a3 a4 => by rw [q1 a a1 a2 a3 a4]; exact hf a a1 a2 a3 a4
        refine wa_istore_n dX5_settle_19 (by decide) ?_
        refine wa_iinc dX5_settle_20 rfl (by decide) ?_
        refine wa_goto 4 dX5_settle_23 (by decide) ?_
        rcases q4 with ⟨rfl, e1, e2⟩ | ⟨rfl, e1⟩
        · exact settle_end ⟨ff, ⟨hJ.trans q2, by rw [e1]; exact e2.closed⟩, q3, by rw [e1]; exact e2⟩
        · exact ih (j + 1) I2 (by omega) (by omega) ff (hJ.trans q2) q3
set_option maxRecDepth 20000 in
theorem c_settle (hL : LX S) {n : Nat} (hn : I 2 0 = (n : Int)) (hn5 : n ≤ 50) (hw : WFT n (I 3) (I 4) (I 5)) (hh : HO n (I 7)) {us : Nat} (hp : PlOK I us) : tmC yX5_settle kX5_settle 5 0 0 [tR 133, tR 2] (S, I, L) (fun r h' => r = none ∧ ∃ I', h' = (S, I', L) ∧ StR n I I') := by
  refine tmC.mk (lv := [some (tR 133), some (tR 2), none, none]) 2 ⟨rfl, by decide +kernel, by decide⟩ rfl rfl ?_
  refine wa_iconst dX5_settle_0 ?_
  refine wa_istore_n dX5_settle_1 (by decide) ?_
  refine wa_iconst dX5_settle_2 ?_
  refine wa_istore_n dX5_settle_3 (by decide) ?_
  have := nCls_le n (I 7)
  exact settle_loop hL hn hn5 hw 51 0 I (by omega) (by omega) (fun _ _ _ _ _ => rfl) (Just.refl hh) ⟨us, hp⟩
end S21
