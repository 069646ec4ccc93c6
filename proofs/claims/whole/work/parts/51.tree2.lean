/-! ===== 51: a side that is read: invariants of rdZ ===== -/
/-- nodes that are there stay -/
def ZKp (Z Z' : ZS) : Prop := Z.1 ≤ Z'.1 ∧ ∀ j, j < Z.1 → Z'.2.1 j = Z.2.1 j ∧ Z'.2.2.1 j = Z.2.2.1 j ∧ Z'.2.2.2.1 j = Z.2.2.2.1 j ∧ Z'.2.2.2.2.1 j = Z.2.2.2.2.1 j
theorem ZKp.refl (Z : ZS) : ZKp Z Z := ⟨Nat.le_refl _, fun _ _ => ⟨rfl, rfl, rfl, rfl⟩⟩
theorem ZKp.trans {X Y Z : ZS} (a : ZKp X Y) (b : ZKp Y Z) : ZKp X Z := ⟨Nat.le_trans a.1 b.1, fun j hj => by
  obtain ⟨a1, a2, a3, a4⟩ := a.2 j hj
  obtain ⟨b1, b2, b3, b4⟩ := b.2 j (Nat.lt_of_lt_of_le hj a.1)
  exact ⟨b1.trans a1, b2.trans a2, b3.trans a3, b4.trans a4⟩⟩
theorem ZKp.add (Z : ZS) (p : Nat) (s a b : Int) : ZKp Z (zAdd (zTo Z p) s a b) := ⟨by simp only [zAdd, zTo]; omega, fun j hj => by
  simp only [zAdd, zTo]
  rw [vup_n (by omega), vup_n (by omega), vup_n (by omega), vup_n (by omega)]
  exact ⟨rfl, rfl, rfl, rfl⟩⟩
theorem cbZ_keep {b : Nat → Int} {n : Nat} : ∀ (dp : Nat) (Z : ZS) (node : Int), ZKp Z (cbZ b n dp Z node).2.2 := by
  intro dp
  induction dp with
  | zero => intro Z node; exact ZKp.refl Z
  | succ k ih =>
    intro Z node
    simp only [cbZ]
    split
    · exact ZKp.refl Z
    · split
      · exact (ZKp.add Z _ _ _ _).trans (ih _ _)
      · exact ZKp.refl Z
theorem rdZ_keep {b : Nat → Int} {n may : Nat} : ∀ (k dp : Nat) (Z : ZS), ZKp Z (rdZ b n may k dp Z).2.2 := by
  intro k
  induction k with
  | zero => intro dp Z; exact ZKp.refl Z
  | succ k ih =>
    intro dp Z
    simp only [rdZ]
    split
    · exact ZKp.refl Z
    · split
      · split
        · exact ZKp.trans (Y := zOpen (zTo Z (tkP b n (skp b n Z.2.2.2.2.2.2.2 + 1) 40)) dp (sgOf (byt b n (skp b n Z.2.2.2.2.2.2.2)))) (ZKp.refl Z) (ih _ _)
        · exact ZKp.refl Z
      · have h1 := (ZKp.add Z (skp b n Z.2.2.2.2.2.2.2 + 1) (sgOf (byt b n (skp b n Z.2.2.2.2.2.2.2))) (-1) (-1)).trans (cbZ_keep (b := b) (n := n) dp _ (Z.1 : Int))
        split
        · exact h1
        · split
          · exact h1
          · exact h1.trans (ih _ _)
theorem rdZ_inv {b : Nat → Int} {n may : Nat} : ∀ (k dp : Nat) (Z : ZS), ZI n dp Z → ZI n (rdZ b n may k dp Z).2.1 (rdZ b n may k dp Z).2.2 := by
  intro k
  induction k with
  | zero => intro dp Z h; exact h
  | succ k ih =>
    intro dp Z h
    obtain ⟨i1, i2, i3⟩ := id h
    have hsk := skp_b (b := b) i1
    have hin := @sgOf_in b n (skp b n Z.2.2.2.2.2.2.2)
    simp only [rdZ]
    generalize sgOf (byt b n (skp b n Z.2.2.2.2.2.2.2)) = s at hin ⊢
    generalize skp b n Z.2.2.2.2.2.2.2 = P at hsk hin ⊢
    split
    · exact ⟨hsk.2, by show Z.1 + dp ≤ P; omega, i3⟩
    · next hbad =>
      have hP := hin (fun z => hbad (Or.inl z))
      split
      · next hop =>
        have htb := tkP_b (b := b) (n := n) (p := P + 1) (by omega) (c := 40) (by decide)
        split
        · refine ih _ _ ⟨htb.2.1, by show Z.1 + (dp + 1) ≤ tkP b n (P + 1) 40; have := htb.2.2 (by assumption); omega, fun j hj => ?_⟩
          show 4 ≤ va_up Z.2.2.2.2.2.1 dp s j ∧ va_up Z.2.2.2.2.2.1 dp s j ≤ 6
          by_cases z : j = dp
          · subst z; rw [vup_s]; exact hop
          · rw [vup_n z]; exact i3 j (by omega)
        · exact ⟨htb.2.1, by show Z.1 + dp ≤ tkP b n (P + 1) 40; omega, i3⟩
      · have hiT : ZI n dp (zAdd (zTo Z (P + 1)) s (-1) (-1)) := ⟨by show P + 1 ≤ n; omega, by show Z.1 + 1 + dp ≤ P + 1; omega, i3⟩
        have hinv := cbZ_inv (b := b) dp _ (Z.1 : Int) hiT
        split
        · exact hinv
        · split
          · exact hinv
          · exact ih _ _ hinv
theorem rdZ_tree {b : Nat → Int} {n fr may : Nat} : ∀ (k dp : Nat) (Z : ZS), SdI fr may dp Z (fun _ => False) → (rdZ b n may k dp Z).1 = true → (rdZ b n may k dp Z).2.1 = 0 ∧ fr < (rdZ b n may k dp Z).2.2.1 ∧ SdI fr may 0 (rdZ b n may k dp Z).2.2 (fun j => j + 1 = (rdZ b n may k dp Z).2.2.1) := by
  intro k
  induction k with
  | zero => intro dp Z h hr; cases hr
  | succ k ih =>
    intro dp Z h
    obtain ⟨h1, h2, h3, h4⟩ := id h
    have hsb := sgOf_b (byt b n (skp b n Z.2.2.2.2.2.2.2))
    simp only [rdZ]
    generalize sgOf (byt b n (skp b n Z.2.2.2.2.2.2.2)) = s at hsb ⊢
    generalize skp b n Z.2.2.2.2.2.2.2 = P
    split
    · intro hr; cases hr
    · next hbad =>
      split
      · next hop =>
        split
        · refine ih _ _ ⟨h1, h2, fun q hq => ?_, fun j j1 j2 => ?_⟩
          · show (4 ≤ va_up Z.2.2.2.2.2.1 dp s q ∧ va_up Z.2.2.2.2.2.1 dp s q ≤ 6) ∧ (va_up Z.2.2.2.2.2.2.1 dp (-1) q = -1 ∨ (va_up Z.2.2.2.2.2.1 dp s q = 6 ∧ (fr : Int) ≤ va_up Z.2.2.2.2.2.2.1 dp (-1) q ∧ va_up Z.2.2.2.2.2.2.1 dp (-1) q < Z.1))
            by_cases z : q = dp
            · subst z; rw [vup_s, vup_s]; exact ⟨hop, Or.inl rfl⟩
            · rw [vup_n z, vup_n z]; exact h3 q (by omega)
          · rcases h4 j j1 j2 with q | q | ⟨q, q1, q2⟩
            · exact absurd q id
            · exact Or.inr (Or.inl q)
            · refine Or.inr (Or.inr ⟨q, by omega, ?_⟩)
              show va_up Z.2.2.2.2.2.2.1 dp (-1) q = (j : Int)
              rw [vup_n (by omega)]; exact q2
        · intro hr; cases hr
      · next hop =>
        have hadd : SdI fr may dp (zAdd (zTo Z (P + 1)) s (-1) (-1)) (fun j => j = Z.1) := by
          refine SdI.add (P := fun _ => False) (Z := zTo Z (P + 1)) h ⟨?_, hsb.2, fun _ => ⟨rfl, rfl⟩, fun a b => absurd ⟨a, by omega⟩ hop, fun _ _ => rfl, fun a => absurd ⟨by omega, by omega⟩ hop, fun a => ?_⟩ (fun _ _ _ z => absurd z id) rfl
          · by_cases z : s = -1
            · exact absurd (Or.inl z) hbad
            · omega
          · cases hb : may.testBit (s - 7).toNat with
            | true => rfl
            | false => exact absurd (Or.inr ⟨a, hb⟩) hbad
        have ht := cbZ_tree (b := b) (n := n) dp _ Z.1 hadd h1 rfl
        have hk := cbZ_keep (b := b) (n := n) dp (zAdd (zTo Z (P + 1)) s (-1) (-1)) (Z.1 : Int)
        generalize cbZ b n dp (zAdd (zTo Z (P + 1)) s (-1) (-1)) (Z.1 : Int) = r0 at ht hk ⊢
        have hlt : fr < r0.2.2.1 := Nat.lt_of_lt_of_le (Nat.lt_succ_of_le h1) hk.1
        split
        · next hf => intro hr; rw [hf] at hr; cases hr
        · split
          · next h0 =>
            intro hr
            refine ⟨h0, hlt, ?_⟩
            have := ht hr
            rw [h0] at this
            obtain ⟨t1, t2, t3, t4⟩ := this
            exact ⟨t1, t2, t3, fun j j1 j2 => by
              rcases t4 j j1 j2 with q | q | q
              · exact Or.inl q.2
              · exact Or.inr (Or.inl q)
              · exact Or.inr (Or.inr q)⟩
          · next hf h0 =>
            refine ih _ _ ?_
            have := ht (by cases hq : r0.1 with | true => rfl | false => exact absurd hq hf)
            obtain ⟨t1, t2, t3, t4⟩ := this
            exact ⟨t1, t2, t3, fun j j1 j2 => by
              rcases t4 j j1 j2 with q | q | q
              · exact absurd q.1 h0
              · exact Or.inr (Or.inl q)
              · exact Or.inr (Or.inr q)⟩
