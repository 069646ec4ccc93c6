/-! ===== 65: a side that is read spells a word (no machine) ===== -/
theorem ndZ_hi {os fs : Nat → Int} {k : Nat} (h : ¬ (os k = 6 ∧ fs k = -1)) : ndZ os fs (k + 1) = 1 :: ndZ os fs k := by simp only [ndZ]; rw [if_neg h]
theorem ndZ_lo {os fs : Nat → Int} {k : Nat} (h : os k = 6 ∧ fs k = -1) : ndZ os fs (k + 1) = 2 :: ndZ os fs k := by simp only [ndZ]; rw [if_pos h]
theorem zTo_WI {fr dp : Nat} {Z : ZS} {p : Nat} : WI fr dp (zTo Z p) ↔ WI fr dp Z := Iff.rfl
theorem cbZ_word {b : Nat → Int} {n fr : Nat} : ∀ (dp : Nat) (Z : ZS) (nd : Nat), WI fr dp Z → fr ≤ nd → nd + 1 = Z.1 → Z.1 + dp = fr + (zW Z dp).length + (zP Z nd).length →
    (cbZ b n dp Z nd).1 = (clW b n (ndZ Z.2.2.2.2.2.1 Z.2.2.2.2.2.2.1 dp) Z.2.2.2.2.2.2.2).1 ∧ (cbZ b n dp Z nd).2.2.2.2.2.2.2.2.2 = (clW b n (ndZ Z.2.2.2.2.2.1 Z.2.2.2.2.2.2.1 dp) Z.2.2.2.2.2.2.2).2.2 ∧
    ((cbZ b n dp Z nd).1 = true → ndZ (cbZ b n dp Z nd).2.2.2.2.2.2.2.1 (cbZ b n dp Z nd).2.2.2.2.2.2.2.2.1 (cbZ b n dp Z nd).2.1 = (clW b n (ndZ Z.2.2.2.2.2.1 Z.2.2.2.2.2.2.1 dp) Z.2.2.2.2.2.2.2).2.1 ∧ WI fr (cbZ b n dp Z nd).2.1 (cbZ b n dp Z nd).2.2 ∧
      ((cbZ b n dp Z nd).2.1 = 0 → ∃ r, fr ≤ r ∧ (cbZ b n dp Z nd).2.2.1 = r + 1 ∧ r + 1 = fr + (zP (cbZ b n dp Z nd).2.2 r).length ∧ zP (cbZ b n dp Z nd).2.2 r = zW Z dp ++ zP Z nd) ∧
      ((cbZ b n dp Z nd).2.1 ≠ 0 → fr ≤ (cbZ b n dp Z nd).2.2.1 ∧ (cbZ b n dp Z nd).2.2.1 + (cbZ b n dp Z nd).2.1 = fr + (zW (cbZ b n dp Z nd).2.2 (cbZ b n dp Z nd).2.1).length ∧ zW (cbZ b n dp Z nd).2.2 (cbZ b n dp Z nd).2.1 = zW Z dp ++ zP Z nd)) := by
  intro dp
  induction dp with
  | zero =>
    intro Z nd h1 h2 h3 h4
    refine ⟨rfl, rfl, fun _ => ⟨rfl, h1, fun _ => ⟨nd, h2, h3.symm, ?_, rfl⟩, fun h => absurd rfl h⟩⟩
    have : (zW Z 0).length = 0 := rfl
    show nd + 1 = fr + (zP Z nd).length
    omega
  | succ k ih =>
    intro Z nd h1 h2 h3 h4
    have wk := h1.2.2 k (by omega)
    have hlen := stW_len Z.2.1 Z.2.2.1 Z.2.2.2.1 Z.2.2.2.2.2.1 Z.2.2.2.2.2.2.1 k
    have zs : zW Z (k + 1) = zW Z k ++ Z.2.2.2.2.2.1 k :: pf Z.2.1 Z.2.2.1 Z.2.2.2.1 (Z.2.2.2.2.2.2.1 k) := rfl
    have zl : (zW Z (k + 1)).length = (zW Z k).length + 1 + (pf Z.2.1 Z.2.2.1 Z.2.2.2.1 (Z.2.2.2.2.2.2.1 k)).length := by rw [zs]; simp only [List.length_append, List.length_cons]; omega
    have hlen' : k ≤ (zW Z k).length := hlen
    simp only [cbZ, ndZ, clW]
    by_cases hA : Z.2.2.2.2.2.1 k = 6 ∧ Z.2.2.2.2.2.2.1 k = -1
    · rw [if_pos hA, if_pos hA, if_pos rfl]
      refine ⟨rfl, rfl, fun _ => ?_⟩
      have hp0 : pf Z.2.1 Z.2.2.1 Z.2.2.2.1 (Z.2.2.2.2.2.2.1 k) = [] := pf_neg (by omega)
      have lo : zW (zTo (zFirst Z k nd) (tkP b n Z.2.2.2.2.2.2.2 44)) k = zW Z k := stW_cg k (fun j hj => ⟨rfl, by simp only [zTo, zFirst]; rw [vup_n (by omega)]⟩)
      have up : zW (zTo (zFirst Z k nd) (tkP b n Z.2.2.2.2.2.2.2 44)) (k + 1) = zW Z (k + 1) ++ zP Z nd := by
        have : zW (zTo (zFirst Z k nd) (tkP b n Z.2.2.2.2.2.2.2 44)) (k + 1) = zW (zTo (zFirst Z k nd) (tkP b n Z.2.2.2.2.2.2.2 44)) k ++ Z.2.2.2.2.2.1 k :: pf Z.2.1 Z.2.2.1 Z.2.2.2.1 (va_up Z.2.2.2.2.2.2.1 k (nd : Int) k) := rfl
        rw [this, lo, zs, hp0, vup_s]
        simp
      refine ⟨?_, ⟨h1.1, h1.2.1, fun j hj => ?_⟩, fun h => by simp at h, fun _ => ⟨by show fr ≤ Z.1; omega, ?_, up⟩⟩
      · refine (ndZ_hi (os := Z.2.2.2.2.2.1) (fs := va_up Z.2.2.2.2.2.2.1 k (nd : Int)) (fun q => by rw [vup_s] at q; omega)).trans ?_
        rw [ndZ_cg k (fun j hj => ⟨rfl, vup_n (by omega)⟩)]
      · have hj : j < k + 1 := hj
        have wj := h1.2.2 j hj
        refine ⟨wj.1, wj.2.1, ?_⟩
        simp only [zTo, zFirst]
        by_cases e : j = k
        · subst e
          rw [vup_s]
          refine Or.inr ⟨hA.1, by omega, by show (nd : Int) < (Z.1 : Nat); omega, ?_⟩
          have := congrArg List.length up
          rw [List.length_append] at this
          simp only [zW, zTo, zFirst, zP] at this h4 ⊢
          omega
        · rw [vup_n e]
          have lj : stW Z.2.1 Z.2.2.1 Z.2.2.2.1 Z.2.2.2.2.2.1 (va_up Z.2.2.2.2.2.2.1 k (nd : Int)) (j + 1) = stW Z.2.1 Z.2.2.1 Z.2.2.2.1 Z.2.2.2.2.2.1 Z.2.2.2.2.2.2.1 (j + 1) := stW_cg (j + 1) (fun i hi => ⟨rfl, by rw [vup_n (by omega)]⟩)
          rw [lj]
          exact wj.2.2
      · rw [up, List.length_append]
        show Z.1 + (k + 1) = _
        omega
    · rw [if_neg hA, if_neg hA, if_neg (show ¬ (1 = 2) by decide)]
      by_cases ht : tkB b n Z.2.2.2.2.2.2.2 41
      · rw [if_pos ht, if_pos ht]
        obtain ⟨a1, a2, a3, a4⟩ := WI.add (Z := zTo Z (tkP b n Z.2.2.2.2.2.2.2 41)) (dp := k) (s := Z.2.2.2.2.2.1 k) (a := if Z.2.2.2.2.2.1 k = 6 then Z.2.2.2.2.2.2.1 k else nd) (c := if Z.2.2.2.2.2.1 k = 6 then (nd : Int) else -1) (fr := fr)
          ⟨h1.1, h1.2.1, fun j hj => h1.2.2 j (by omega)⟩ (by show fr ≤ Z.1; omega)
          (by show _ < ((Z.1 : Nat) : Int) ∧ _; split <;> omega) (by show _ < ((Z.1 : Nat) : Int) ∧ _; split <;> omega)
          (by
            show fr + (pf Z.2.1 Z.2.2.1 Z.2.2.2.1 _).length + (pf Z.2.1 Z.2.2.1 Z.2.2.2.1 _).length ≤ Z.1
            by_cases e6 : Z.2.2.2.2.2.1 k = 6
            · rw [if_pos e6, if_pos e6]; simp only [zP] at h4; omega
            · rw [if_neg e6, if_neg e6, pf_neg (x := -1) (by decide)]; simp only [zP, List.length_nil] at h4 ⊢; omega)
          (fun _ _ => by show _ ≤ _ ∧ _ = ((Z.1 : Nat) : Int) ∧ _; rw [if_neg (by omega), if_neg (by omega)]; omega)
          (fun e6 => by
            show _ ≤ _ ∧ _ = ((Z.1 : Nat) : Int) ∧ _ + _ + ((pf Z.2.1 Z.2.2.1 Z.2.2.2.1 _).length : Int) = ((Z.1 : Nat) : Int)
            rw [if_pos e6, if_pos e6]
            rcases wk.2.2 with q | ⟨q1, q2, q3, q4⟩
            · exact absurd ⟨e6, q⟩ hA
            · simp only [zW, zP] at h4
              omega)
          (fun h => by omega) ⟨by omega, by omega⟩
        have pnd : (pf Z.2.1 Z.2.2.1 Z.2.2.2.1 (if Z.2.2.2.2.2.1 k = 6 then Z.2.2.2.2.2.2.1 k else nd) ++ pf Z.2.1 Z.2.2.1 Z.2.2.2.1 (if Z.2.2.2.2.2.1 k = 6 then (nd : Int) else -1)) = pf Z.2.1 Z.2.2.1 Z.2.2.2.1 (Z.2.2.2.2.2.2.1 k) ++ zP Z nd := by
          by_cases e6 : Z.2.2.2.2.2.1 k = 6
          · rw [if_pos e6, if_pos e6]
          · rw [if_neg e6, if_neg e6, pf_neg (x := -1) (by decide)]
            rcases wk.2.2 with q | ⟨q1, q2, q3, q4⟩
            · rw [pf_neg (x := Z.2.2.2.2.2.2.1 k) (by omega)]; simp
            · exact absurd q1 e6
        have a2' : zP (zAdd (zTo Z (tkP b n Z.2.2.2.2.2.2.2 41)) (Z.2.2.2.2.2.1 k) (if Z.2.2.2.2.2.1 k = 6 then Z.2.2.2.2.2.2.1 k else nd) (if Z.2.2.2.2.2.1 k = 6 then (nd : Int) else -1)) Z.1 = Z.2.2.2.2.2.1 k :: (pf Z.2.1 Z.2.2.1 Z.2.2.2.1 (Z.2.2.2.2.2.2.1 k) ++ zP Z nd) := by
          rw [← pnd]; exact a2
        have a3' : zW (zAdd (zTo Z (tkP b n Z.2.2.2.2.2.2.2 41)) (Z.2.2.2.2.2.1 k) (if Z.2.2.2.2.2.1 k = 6 then Z.2.2.2.2.2.2.1 k else nd) (if Z.2.2.2.2.2.1 k = 6 then (nd : Int) else -1)) k = zW Z k := a3 k (Nat.le_refl _)
        have tot : zW (zAdd (zTo Z (tkP b n Z.2.2.2.2.2.2.2 41)) (Z.2.2.2.2.2.1 k) (if Z.2.2.2.2.2.1 k = 6 then Z.2.2.2.2.2.2.1 k else nd) (if Z.2.2.2.2.2.1 k = 6 then (nd : Int) else -1)) k ++ zP (zAdd (zTo Z (tkP b n Z.2.2.2.2.2.2.2 41)) (Z.2.2.2.2.2.1 k) (if Z.2.2.2.2.2.1 k = 6 then Z.2.2.2.2.2.2.1 k else nd) (if Z.2.2.2.2.2.1 k = 6 then (nd : Int) else -1)) Z.1 = zW Z (k + 1) ++ zP Z nd := by
          rw [a2', a3', zs]; simp
        have hi := ih (zAdd (zTo Z (tkP b n Z.2.2.2.2.2.2.2 41)) (Z.2.2.2.2.2.1 k) (if Z.2.2.2.2.2.1 k = 6 then Z.2.2.2.2.2.2.1 k else nd) (if Z.2.2.2.2.2.1 k = 6 then (nd : Int) else -1)) Z.1 a1 (by omega) rfl (by
          show Z.1 + 1 + k = _
          rw [a2', a3']
          simp only [List.length_cons, List.length_append]
          omega)
        rw [tot] at hi
        exact hi
      · rw [if_neg ht, if_neg ht]
        exact ⟨rfl, rfl, fun h => by simp at h⟩
theorem rdZ_word {b : Nat → Int} {n may fr : Nat} : ∀ (k dp : Nat) (Z : ZS), WI fr dp Z → fr ≤ Z.1 → Z.1 + dp = fr + (zW Z dp).length →
    (rdZ b n may k dp Z).1 = (sdW b n may k (ndZ Z.2.2.2.2.2.1 Z.2.2.2.2.2.2.1 dp) (zW Z dp) Z.2.2.2.2.2.2.2).1 ∧ (rdZ b n may k dp Z).2.2.2.2.2.2.2.2.2 = (sdW b n may k (ndZ Z.2.2.2.2.2.1 Z.2.2.2.2.2.2.1 dp) (zW Z dp) Z.2.2.2.2.2.2.2).2.1 ∧
    ((rdZ b n may k dp Z).1 = true → WI fr 0 (rdZ b n may k dp Z).2.2 ∧ ∃ r, fr ≤ r ∧ (rdZ b n may k dp Z).2.2.1 = r + 1 ∧ r + 1 = fr + (zP (rdZ b n may k dp Z).2.2 r).length ∧ zP (rdZ b n may k dp Z).2.2 r = (sdW b n may k (ndZ Z.2.2.2.2.2.1 Z.2.2.2.2.2.2.1 dp) (zW Z dp) Z.2.2.2.2.2.2.2).2.2) := by
  intro k
  induction k with
  | zero => intro dp Z _ _ _; exact ⟨rfl, rfl, fun h => by simp [rdZ] at h⟩
  | succ k ih =>
    intro dp Z h1 h2 h3
    simp only [rdZ, sdW]
    have hsb := sgOf_b (byt b n (skp b n Z.2.2.2.2.2.2.2))
    generalize hs : sgOf (byt b n (skp b n Z.2.2.2.2.2.2.2)) = s at *
    by_cases c1 : s = -1 ∨ (7 ≤ s ∧ may.testBit (s - 7).toNat = false)
    · rw [if_pos c1, if_pos c1]
      exact ⟨rfl, rfl, fun h => by simp at h⟩
    · rw [if_neg c1, if_neg c1]
      by_cases c2 : 4 ≤ s ∧ s ≤ 6
      · rw [if_pos c2, if_pos c2]
        by_cases c3 : tkB b n (skp b n Z.2.2.2.2.2.2.2 + 1) 40
        · rw [if_pos c3, if_pos c3]
          have eq : zW (zOpen (zTo Z (tkP b n (skp b n Z.2.2.2.2.2.2.2 + 1) 40)) dp s) (dp + 1) = zW Z dp ++ [s] := by
            have : zW (zOpen (zTo Z (tkP b n (skp b n Z.2.2.2.2.2.2.2 + 1) 40)) dp s) (dp + 1) = zW (zOpen (zTo Z (tkP b n (skp b n Z.2.2.2.2.2.2.2 + 1) 40)) dp s) dp ++ va_up Z.2.2.2.2.2.1 dp s dp :: pf Z.2.1 Z.2.2.1 Z.2.2.2.1 (va_up Z.2.2.2.2.2.2.1 dp (-1) dp) := rfl
            rw [this, vup_s, vup_s, pf_neg (by decide)]
            congr 1
            exact stW_cg dp (fun j hj => ⟨by simp only [zOpen, zTo]; rw [vup_n (by omega)], by simp only [zOpen, zTo]; rw [vup_n (by omega)]⟩)
          have nq : ndZ (zOpen (zTo Z (tkP b n (skp b n Z.2.2.2.2.2.2.2 + 1) 40)) dp s).2.2.2.2.2.1 (zOpen (zTo Z (tkP b n (skp b n Z.2.2.2.2.2.2.2 + 1) 40)) dp s).2.2.2.2.2.2.1 (dp + 1) = (if s = 6 then 2 else 1) :: ndZ Z.2.2.2.2.2.1 Z.2.2.2.2.2.2.1 dp := by
            by_cases e6 : s = 6
            · rw [if_pos e6]
              refine (ndZ_lo (os := va_up Z.2.2.2.2.2.1 dp s) (fs := va_up Z.2.2.2.2.2.2.1 dp (-1)) ⟨by rw [vup_s]; exact e6, vup_s⟩).trans ?_
              rw [ndZ_cg dp (fun j hj => ⟨vup_n (by omega), vup_n (by omega)⟩)]
            · rw [if_neg e6]
              refine (ndZ_hi (os := va_up Z.2.2.2.2.2.1 dp s) (fs := va_up Z.2.2.2.2.2.2.1 dp (-1)) (fun q => e6 (by rw [vup_s] at q; exact q.1))).trans ?_
              rw [ndZ_cg dp (fun j hj => ⟨vup_n (by omega), vup_n (by omega)⟩)]
          have hi := ih (dp + 1) (zOpen (zTo Z (tkP b n (skp b n Z.2.2.2.2.2.2.2 + 1) 40)) dp s) ⟨h1.1, h1.2.1, fun j hj => ?_⟩ h2 (by rw [eq]; show Z.1 + (dp + 1) = _; simp only [List.length_append, List.length_cons, List.length_nil]; omega)
          · rw [eq, nq] at hi
            exact hi
          · simp only [zOpen, zTo]
            by_cases e : j = dp
            · subst e
              rw [vup_s, vup_s]
              exact ⟨c2.1, c2.2, Or.inl rfl⟩
            · have wj := h1.2.2 j (by omega)
              have lj : stW Z.2.1 Z.2.2.1 Z.2.2.2.1 (va_up Z.2.2.2.2.2.1 dp s) (va_up Z.2.2.2.2.2.2.1 dp (-1)) (j + 1) = stW Z.2.1 Z.2.2.1 Z.2.2.2.1 Z.2.2.2.2.2.1 Z.2.2.2.2.2.2.1 (j + 1) := stW_cg (j + 1) (fun i hi => ⟨vup_n (by omega), by rw [vup_n (by omega)]⟩)
              rw [vup_n e, vup_n e, lj]
              exact wj
        · rw [if_neg c3, if_neg c3]
          exact ⟨rfl, rfl, fun h => by simp at h⟩
      · rw [if_neg c2, if_neg c2]
        obtain ⟨a1, a2, a3, a4⟩ := WI.add (Z := zTo Z (skp b n Z.2.2.2.2.2.2.2 + 1)) (dp := dp) (s := s) (a := -1) (c := -1) (fr := fr) h1 h2 (by show (-1 : Int) < ((Z.1 : Nat) : Int) ∧ _; omega) (by show (-1 : Int) < ((Z.1 : Nat) : Int) ∧ _; omega) (by rw [pf_neg (by decide)]; exact h2) (fun q1 q2 => absurd ⟨q1, by omega⟩ c2) (fun q => absurd ⟨by omega, by omega⟩ c2) (fun _ => ⟨rfl, rfl⟩) ⟨by omega, hsb.2⟩
        rw [pf_neg (x := -1) (by decide)] at a2
        have a2' : zP (zAdd (zTo Z (skp b n Z.2.2.2.2.2.2.2 + 1)) s (-1) (-1)) Z.1 = [s] := a2
        have a3' : zW (zAdd (zTo Z (skp b n Z.2.2.2.2.2.2.2 + 1)) s (-1) (-1)) dp = zW Z dp := a3 dp (Nat.le_refl _)
        obtain ⟨q1, q2, q3⟩ := cbZ_word (b := b) (n := n) dp (zAdd (zTo Z (skp b n Z.2.2.2.2.2.2.2 + 1)) s (-1) (-1)) Z.1 a1 h2 rfl (by rw [a2', a3']; show Z.1 + 1 + dp = _; simp only [List.length_cons, List.length_nil]; omega)
        rw [a2', a3'] at q3
        have en : ndZ (zAdd (zTo Z (skp b n Z.2.2.2.2.2.2.2 + 1)) s (-1) (-1)).2.2.2.2.2.1 (zAdd (zTo Z (skp b n Z.2.2.2.2.2.2.2 + 1)) s (-1) (-1)).2.2.2.2.2.2.1 dp = ndZ Z.2.2.2.2.2.1 Z.2.2.2.2.2.2.1 dp := rfl
        have ep : (zAdd (zTo Z (skp b n Z.2.2.2.2.2.2.2 + 1)) s (-1) (-1)).2.2.2.2.2.2.2 = skp b n Z.2.2.2.2.2.2.2 + 1 := rfl
        rw [en, ep] at q1 q2 q3
        generalize hr : cbZ b n dp (zAdd (zTo Z (skp b n Z.2.2.2.2.2.2.2 + 1)) s (-1) (-1)) (Z.1 : Int) = r at *
        generalize hc : clW b n (ndZ Z.2.2.2.2.2.1 Z.2.2.2.2.2.2.1 dp) (skp b n Z.2.2.2.2.2.2.2 + 1) = c at *
        cases h0 : r.1 with
        | false =>
          rw [if_pos rfl, if_pos (by rw [← q1]; exact h0)]
          exact ⟨h0, q2, fun h => by rw [h0] at h; cases h⟩
        | true =>
          obtain ⟨g1, g2, g3, g4⟩ := q3 h0
          rw [if_neg (show ¬ (true = false) by decide), if_neg (show ¬ c.1 = false by rw [← q1, h0]; decide)]
          by_cases hd : r.2.1 = 0
          · rw [if_pos hd]
            have : c.2.1 = [] := by rw [← g1, hd]; rfl
            rw [if_pos this]
            refine ⟨h0, q2, fun _ => ⟨by rw [hd] at g2; exact g2, ?_⟩⟩
            obtain ⟨rr, r1, r2, r3, r4⟩ := g3 hd
            exact ⟨rr, r1, r2, r3, r4⟩
          · rw [if_neg hd]
            have : c.2.1 ≠ [] := by
              rw [← g1]
              cases h : r.2.1 with
              | zero => exact absurd h hd
              | succ m => simp [ndZ]
            rw [if_neg this]
            obtain ⟨k1, k2, k3⟩ := g4 hd
            have hi := ih r.2.1 r.2.2 g2 k1 k2
            rw [g1, k3, q2] at hi
            exact hi
