/-! ===== 82: the fewest SIGNS are told after n passes (no machine) ===== -/
def leF (c d : Nat → Int) : Prop := ∀ x, c x ≤ d x
theorem fwOf_le {c d : Nat → Int} (h : leF c d) (x : Int) : fwOf c x ≤ fwOf d x := by
  unfold fwOf; split
  · exact h _
  · omega
section S82
variable {n : Nat} {on ot ho : Nat → Int}
theorem fwStep_le (t : Nat) (c : Nat → Int) : leF (fwStep n on ot ho t c) c := by
  intro x
  unfold fwStep
  split
  · next h =>
    by_cases e : x = (ho t).toNat
    · subst e; rw [vup_s]; omega
    · rw [vup_n e]; omega
  · omega
theorem fwRun_le : ∀ (k t : Nat) (c : Nat → Int), leF (fwRun n on ot ho k t c) c := by
  intro k
  induction k with
  | zero => intro t c x; exact Int.le_refl _
  | succ k ih => intro t c x; exact Int.le_trans (ih (t + 1) _ x) (fwStep_le t c x)
theorem fwN_anti (c : Nat → Int) : ∀ d m, leF (fwN n on ot ho c (m + d)) (fwN n on ot ho c m) := by
  intro d
  induction d with
  | zero => intro m x; exact Int.le_refl _
  | succ d ih => intro m x; exact Int.le_trans (fwRun_le n 0 _ x) (ih m x)
/-- a pass that changes nothing looks at each TERM for nothing -/
theorem fwRun_fix : ∀ (k t : Nat) (c : Nat → Int), (∀ x, fwRun n on ot ho k t c x = c x) → ∀ j, t ≤ j → j < t + k → ¬ (1 + fwOf c (tmHome n ho (on j)) + fwOf c (tmHome n ho (ot j)) < c (ho j).toNat) := by
  intro k
  induction k with
  | zero => intro t c _ j a b; omega
  | succ k ih =>
    intro t c h j a b
    have hs : fwStep n on ot ho t c = c := by
      funext x
      have h1 := fwStep_le (n := n) (on := on) (ot := ot) (ho := ho) t c x
      have h2 := fwRun_le (n := n) (on := on) (ot := ot) (ho := ho) k (t + 1) (fwStep n on ot ho t c) x
      have h3 := h x
      simp only [fwRun] at h3
      omega
    by_cases e : j = t
    · subst e
      intro hlt
      have : fwStep n on ot ho j c (ho j).toNat = c (ho j).toNat := by rw [hs]
      unfold fwStep at this
      rw [if_pos hlt, vup_s] at this
      omega
    · refine ih (t + 1) c (fun x => ?_) j (by omega) (by omega)
      have := h x
      simp only [fwRun] at this
      rw [hs] at this
      exact this
/-- what is told stems from a TERM -/
def fwJ (n : Nat) (on ot ho c : Nat → Int) : Prop := ∀ x, x < n → c x = 1000000 ∨ ∃ t, t < n ∧ (ho t).toNat = x ∧ 1 + fwOf c (tmHome n ho (on t)) + fwOf c (tmHome n ho (ot t)) ≤ c x
theorem fwStep_J {t : Nat} (ht : t < n) {c : Nat → Int} (h : fwJ n on ot ho c) : fwJ n on ot ho (fwStep n on ot ho t c) := by
  intro x hx
  have hle := fwStep_le (n := n) (on := on) (ot := ot) (ho := ho) t c
  by_cases e : 1 + fwOf c (tmHome n ho (on t)) + fwOf c (tmHome n ho (ot t)) < c (ho t).toNat ∧ x = (ho t).toNat
  · right
    refine ⟨t, ht, e.2.symm, ?_⟩
    have h1 := fwOf_le hle (tmHome n ho (on t))
    have h2 := fwOf_le hle (tmHome n ho (ot t))
    have : fwStep n on ot ho t c x = 1 + fwOf c (tmHome n ho (on t)) + fwOf c (tmHome n ho (ot t)) := by
      unfold fwStep; rw [if_pos e.1, e.2, vup_s]
    omega
  · have : fwStep n on ot ho t c x = c x := by
      unfold fwStep
      split
      · next hc => rw [vup_n (fun z => e ⟨hc, z⟩)]
      · rfl
    rw [this]
    rcases h x hx with q | ⟨u, u1, u2, u3⟩
    · exact Or.inl q
    · right
      refine ⟨u, u1, u2, ?_⟩
      have h1 := fwOf_le hle (tmHome n ho (on u))
      have h2 := fwOf_le hle (tmHome n ho (ot u))
      omega
theorem fwRun_J : ∀ (k t : Nat) (c : Nat → Int), t + k ≤ n → fwJ n on ot ho c → fwJ n on ot ho (fwRun n on ot ho k t c) := by
  intro k
  induction k with
  | zero => intro t c _ h; exact h
  | succ k ih => intro t c ht h; exact ih (t + 1) _ (by omega) (fwStep_J (by omega) h)
theorem fwN_J {c : Nat → Int} (h : fwJ n on ot ho c) : ∀ m, fwJ n on ot ho (fwN n on ot ho c m) := by
  intro m
  induction m with
  | zero => exact h
  | succ m ih => exact fwRun_J n 0 _ (by omega) ih
/-- one TERM's look within a pass -/
theorem fwRun_at {F : Nat → Int} : ∀ (k t : Nat) (c : Nat → Int) (j : Nat), t ≤ j → j < t + k → leF F (fwRun n on ot ho k t c) → (∀ x, (x = tmHome n ho (on j) ∨ x = tmHome n ho (ot j)) → fwOf c x ≤ fwOf F x) → fwRun n on ot ho k t c (ho j).toNat ≤ 1 + fwOf F (tmHome n ho (on j)) + fwOf F (tmHome n ho (ot j)) := by
  intro k
  induction k with
  | zero => intro t c j a b; omega
  | succ k ih =>
    intro t c j a b hF hc
    simp only [fwRun] at hF ⊢
    by_cases e : j = t
    · subst e
      have h1 := fwRun_le (n := n) (on := on) (ot := ot) (ho := ho) k (j + 1) (fwStep n on ot ho j c) (ho j).toNat
      have c1 := hc _ (Or.inl rfl)
      have c2 := hc _ (Or.inr rfl)
      have : fwStep n on ot ho j c (ho j).toNat ≤ 1 + fwOf c (tmHome n ho (on j)) + fwOf c (tmHome n ho (ot j)) := by
        unfold fwStep
        split
        · rw [vup_s]; omega
        · next h => omega
      omega
    · refine ih (t + 1) _ j (by omega) (by omega) hF (fun x hx => ?_)
      exact Int.le_trans (fwOf_le (fwStep_le t c) x) (hc x hx)
def sumN (c : Nat → Int) : Nat → Int
  | 0 => 0
  | k + 1 => sumN c k + c k
theorem sumN_le {c d : Nat → Int} (h : leF c d) : ∀ k, sumN c k ≤ sumN d k := by
  intro k
  induction k with
  | zero => exact Int.le_refl _
  | succ k ih => have := h k; simp only [sumN]; omega
theorem sumN_lt {c d : Nat → Int} (h : leF c d) {x : Nat} (hx : c x < d x) : ∀ k, x < k → sumN c k < sumN d k := by
  intro k
  induction k with
  | zero => intro hk; omega
  | succ k ih =>
    intro hk
    simp only [sumN]
    have := h k
    by_cases e : x = k
    · subst e; have := sumN_le h x; omega
    · have := ih (by omega); omega
theorem sumN_nn {c : Nat → Int} : ∀ k, (∀ x, x < k → 0 ≤ c x) → 0 ≤ sumN c k := by
  intro k
  induction k with
  | zero => intro _; exact Int.le_refl _
  | succ k ih => intro h; have := ih (fun x hx => h x (by omega)); have := h k (by omega); simp only [sumN]; omega
theorem fwRun_out : ∀ (k t : Nat) (c : Nat → Int) (x : Nat), t + k ≤ n → (∀ j, j < n → (ho j).toNat < n) → n ≤ x → fwRun n on ot ho k t c x = c x := by
  intro k
  induction k with
  | zero => intro t c x _ _ _; rfl
  | succ k ih =>
    intro t c x ht hh hx
    simp only [fwRun]
    rw [ih (t + 1) _ x (by omega) hh hx]
    unfold fwStep
    split
    · have := hh t (by omega); rw [vup_n (by omega)]
    · rfl
/-- passes come to an end -/
theorem fw_ends (hh : ∀ j, j < n → (ho j).toNat < n) (hn : n ≤ 50) : ∀ (s : Nat) (c : Nat → Int), fwB c → sumN c n ≤ s → ∃ M, ∀ x, fwPass n on ot ho (fwN n on ot ho c M) x = fwN n on ot ho c M x := by
  intro s
  induction s with
  | zero =>
    intro c hb hs
    refine ⟨0, fun x => ?_⟩
    apply Classical.byContradiction
    intro hne
    have hle := fwRun_le (n := n) (on := on) (ot := ot) (ho := ho) n 0 c
    have hx : x < n := by
      by_cases z : x < n
      · exact z
      · exact absurd (fwRun_out n 0 c x (by omega) hh (by omega)) hne
    have hlt : fwPass n on ot ho c x < c x := by have := hle x; have : fwPass n on ot ho c x ≤ c x := this; have hne : fwPass n on ot ho c x ≠ c x := hne; omega
    have h1 : sumN (fwPass n on ot ho c) n < sumN c n := sumN_lt hle hlt n hx
    have h2 := sumN_nn (c := fwPass n on ot ho c) n (fun y hy => (fwRun_b n 0 c hb y (by omega)).1)
    omega
  | succ s ih =>
    intro c hb hs
    by_cases hf : ∀ x, fwPass n on ot ho c x = c x
    · exact ⟨0, hf⟩
    · obtain ⟨x, hne⟩ := Classical.not_forall.mp hf
      have hle := fwRun_le (n := n) (on := on) (ot := ot) (ho := ho) n 0 c
      have hx : x < n := by
        by_cases z : x < n
        · exact z
        · exact absurd (fwRun_out n 0 c x (by omega) hh (by omega)) hne
      have hlt : fwPass n on ot ho c x < c x := by have : fwPass n on ot ho c x ≤ c x := hle x; omega
      have h1 := sumN_lt hle hlt n hx
      obtain ⟨M, hM⟩ := ih (fwPass n on ot ho c) (fwRun_b n 0 c hb) (by have : sumN (fwPass n on ot ho c) n < sumN c n := h1; omega)
      have e : ∀ k, fwN n on ot ho (fwPass n on ot ho c) k = fwN n on ot ho c (k + 1) := by
        intro k
        induction k with
        | zero => rfl
        | succ k ih => simp only [fwN]; rw [ih]; rfl
      exact ⟨M + 1, by rw [← e]; exact hM⟩
/-- how many are not yet at their last -/
def nBad (F c : Nat → Int) (n : Nat) : Nat := tmCnt (fun x => c x ≠ F x) n 0
theorem exists_min {P : Nat → Prop} (f : Nat → Int) (hf : ∀ x, P x → 0 ≤ f x) : ∀ (b : Nat), (∃ x, P x ∧ f x ≤ b) → ∃ x, P x ∧ ∀ y, P y → f x ≤ f y := by
  intro b
  induction b with
  | zero =>
    rintro ⟨x, hx, hb⟩
    exact ⟨x, hx, fun y hy => by have := hf y hy; have := hf x hx; omega⟩
  | succ b ih =>
    rintro ⟨x, hx, hb⟩
    by_cases h : ∃ y, P y ∧ f y ≤ b
    · exact ih h
    · refine ⟨x, hx, fun y hy => ?_⟩
      have : ¬ f y ≤ b := fun z => h ⟨y, hy, z⟩
      omega
theorem nBad_step {F c d : Nat → Int} (h1 : ∀ x, x < n → c x = F x → d x = F x) {x0 : Nat} (h2 : x0 < n) (h3 : c x0 ≠ F x0) (h4 : d x0 = F x0) : nBad F d n < nBad F c n := by
  have key : ∀ k t, t + k ≤ n → tmCnt (fun x => d x ≠ F x) k t ≤ tmCnt (fun x => c x ≠ F x) k t := by
    intro k
    induction k with
    | zero => intro t _; exact Nat.le_refl _
    | succ k ih =>
      intro t ht
      have := ih (t + 1) (by omega)
      simp only [tmCnt]
      by_cases e : c t = F t
      · rw [if_neg (fun z => z (h1 t (by omega) e)), if_neg (fun z => z e)]; omega
      · rw [if_pos e]; split <;> omega
  unfold nBad
  have a := tmCnt_app (fun x => d x ≠ F x) x0 (n - x0) 0
  have b := tmCnt_app (fun x => c x ≠ F x) x0 (n - x0) 0
  rw [show x0 + (n - x0) = n by omega, Nat.zero_add] at a b
  have a2 := tmCnt_app (fun x => d x ≠ F x) 1 (n - x0 - 1) x0
  have b2 := tmCnt_app (fun x => c x ≠ F x) 1 (n - x0 - 1) x0
  rw [show 1 + (n - x0 - 1) = n - x0 by omega] at a2 b2
  have a3 : tmCnt (fun x => d x ≠ F x) 1 x0 = 0 := by simp only [tmCnt]; rw [if_neg (fun z => z h4)]
  have b3 : tmCnt (fun x => c x ≠ F x) 1 x0 = 1 := by simp only [tmCnt]; rw [if_pos h3]
  have k1 := key x0 0 (by omega)
  have k2 := key (n - x0 - 1) (x0 + 1) (by omega)
  omega
/-- after n passes nothing changes -/
theorem fw_done (hh : HO n ho) (hn : n ≤ 50) {c : Nat → Int} (hc : ∀ x, c x = 1000000) {M : Nat} (hM : ∀ x, fwPass n on ot ho (fwN n on ot ho c M) x = fwN n on ot ho c M x) : ∀ m, n ≤ m → ∀ x, x < n → fwN n on ot ho c m x = fwN n on ot ho c M x := by
  have hb : ∀ m, fwB (fwN n on ot ho c m) := fwN_b (fun x _ => by rw [hc]; omega)
  have hho : ∀ j, j < n → (ho j).toNat < n := fun j hj => by have := hh j hj; omega
  have hfix := fwRun_fix n 0 (fwN n on ot ho c M) hM
  have hstay : ∀ d, ∀ x, fwN n on ot ho c (M + d) x = fwN n on ot ho c M x := by
    intro d
    induction d with
    | zero => intro x; rfl
    | succ d ih =>
      intro x
      have : fwN n on ot ho c (M + d) = fwN n on ot ho c M := funext ih
      show fwPass n on ot ho (fwN n on ot ho c (M + d)) x = _
      rw [this]; exact hM x
  have hge : ∀ m, leF (fwN n on ot ho c M) (fwN n on ot ho c m) := by
    intro m x
    by_cases z : m ≤ M
    · have := fwN_anti (n := n) (on := on) (ot := ot) (ho := ho) c (M - m) m x
      rw [show m + (M - m) = M by omega] at this
      exact this
    · have := hstay (m - M) x
      rw [show M + (m - M) = m by omega] at this
      omega
  have step : ∀ m, nBad (fwN n on ot ho c M) (fwN n on ot ho c m) n ≠ 0 → nBad (fwN n on ot ho c M) (fwN n on ot ho c (m + 1)) n < nBad (fwN n on ot ho c M) (fwN n on ot ho c m) n := by
    intro m hbad
    obtain ⟨y, _, y1, y2⟩ := (tmCnt_pos (P := fun x => fwN n on ot ho c m x ≠ fwN n on ot ho c M x) n 0).mp (Nat.pos_of_ne_zero hbad)
    obtain ⟨x0, ⟨x1, x2⟩, x3⟩ := exists_min (P := fun x => x < n ∧ fwN n on ot ho c m x ≠ fwN n on ot ho c M x) (fwN n on ot ho c M) (fun x hx => (hb M x (by omega)).1) 1000000 ⟨y, ⟨by omega, y2⟩, (hb M y (by omega)).2⟩
    have lt0 : fwN n on ot ho c M x0 < fwN n on ot ho c m x0 := by have := hge m x0; omega
    have hm6 := (hb m x0 (by omega)).2
    rcases fwN_J (n := n) (on := on) (ot := ot) (ho := ho) (c := c) (fun x _ => Or.inl (hc x)) M x0 x1 with q | ⟨t, t1, t2, t3⟩
    · omega
    · have hfx := hfix t (by omega) (by omega)
      rw [t2] at hfx
      have part : ∀ z : Int, (z = tmHome n ho (on t) ∨ z = tmHome n ho (ot t)) → fwOf (fwN n on ot ho c m) z ≤ fwOf (fwN n on ot ho c M) z := by
        intro z hz
        have b1 := fwOf_b (hb M) (tmHome n ho (on t))
        have b2 := fwOf_b (hb M) (tmHome n ho (ot t))
        by_cases zi : 0 ≤ z ∧ z < n
        · have e1 : fwOf (fwN n on ot ho c M) z = fwN n on ot ho c M z.toNat := by unfold fwOf; rw [if_pos ⟨zi.1, by omega⟩]
          have e2 : fwOf (fwN n on ot ho c m) z = fwN n on ot ho c m z.toNat := by unfold fwOf; rw [if_pos ⟨zi.1, by omega⟩]
          have zl : fwOf (fwN n on ot ho c M) z < fwN n on ot ho c M x0 := by
            rcases hz with e | e
            · rw [e]; omega
            · rw [e]; omega
          rw [e1] at zl ⊢
          rw [e2]
          by_cases zb : fwN n on ot ho c m z.toNat = fwN n on ot ho c M z.toNat
          · omega
          · have := x3 z.toNat ⟨by omega, zb⟩; omega
        · have zneg : z < 0 := by
            have hr : ∀ u : Int, tmHome n ho u < 0 ∨ (0 ≤ tmHome n ho u ∧ tmHome n ho u < n) := fun u => by
              by_cases hu : 0 ≤ u ∧ u < n
              · rw [tmHome_in hu]; have := hh u.toNat (by omega); omega
              · rw [tmHome_out hu]; omega
            rcases hz with e | e
            · rw [e] at zi ⊢; rcases hr (on t) with q | q
              · exact q
              · exact absurd q zi
            · rw [e] at zi ⊢; rcases hr (ot t) with q | q
              · exact q
              · exact absurd q zi
          unfold fwOf
          rw [if_neg (by omega), if_neg (by omega)]
          omega
      have hle := fwRun_at (n := n) (on := on) (ot := ot) (ho := ho) (F := fwN n on ot ho c M) n 0 (fwN n on ot ho c m) t (by omega) (by omega) (hge (m + 1)) part
      rw [t2] at hle
      refine nBad_step (fun x hx e => ?_) x1 x2 ?_
      · have a := hge (m + 1) x
        have b := fwRun_le (n := n) (on := on) (ot := ot) (ho := ho) n 0 (fwN n on ot ho c m) x
        show fwRun n on ot ho n 0 (fwN n on ot ho c m) x = _
        have a' : fwN n on ot ho c M x ≤ fwRun n on ot ho n 0 (fwN n on ot ho c m) x := a
        omega
      · have a : fwN n on ot ho c M x0 ≤ fwRun n on ot ho n 0 (fwN n on ot ho c m) x0 := hge (m + 1) x0
        show fwRun n on ot ho n 0 (fwN n on ot ho c m) x0 = _
        omega
  have cnt : ∀ m, nBad (fwN n on ot ho c M) (fwN n on ot ho c m) n ≤ n - m := by
    intro m
    induction m with
    | zero => exact tmCnt_le _ _ _
    | succ m ih =>
      by_cases z : nBad (fwN n on ot ho c M) (fwN n on ot ho c m) n = 0
      · have hall : ∀ x, x < n → fwN n on ot ho c m x = fwN n on ot ho c M x := fun x hx => by
          apply Classical.byContradiction
          intro hne
          have := (tmCnt_pos (P := fun x => fwN n on ot ho c m x ≠ fwN n on ot ho c M x) n 0).mpr ⟨x, by omega, by omega, hne⟩
          unfold nBad at z
          omega
        have : nBad (fwN n on ot ho c M) (fwN n on ot ho c (m + 1)) n = 0 := by
          apply Classical.byContradiction
          intro hne
          obtain ⟨x, _, x1, x2⟩ := (tmCnt_pos (P := fun x => fwN n on ot ho c (m + 1) x ≠ fwN n on ot ho c M x) n 0).mp (Nat.pos_of_ne_zero hne)
          apply x2
          have a := hge (m + 1) x
          have b : fwN n on ot ho c (m + 1) x ≤ fwN n on ot ho c m x := fwRun_le (n := n) (on := on) (ot := ot) (ho := ho) n 0 (fwN n on ot ho c m) x
          have := hall x (by omega)
          omega
        omega
      · have := step m z; omega
  intro m hm x hx
  have := cnt m
  apply Classical.byContradiction
  intro hne
  have := (tmCnt_pos (P := fun x => fwN n on ot ho c m x ≠ fwN n on ot ho c M x) n 0).mpr ⟨x, by omega, by omega, hne⟩
  unfold nBad at *
  omega
/-- whenever the class stops, it tells what n passes tell -/
theorem fw_any (hh : HO n ho) (hn : n ≤ 50) {c : Nat → Int} (hc : ∀ x, c x = 1000000) {m : Nat} (hm : m = 51 ∨ ∀ x, fwPass n on ot ho (fwN n on ot ho c m) x = fwN n on ot ho c m x) : ∀ x, x < n → fwN n on ot ho c m x = fwN n on ot ho c n x := by
  intro x hx
  have hho : ∀ j, j < n → (ho j).toNat < n := fun j hj => by have := hh j hj; omega
  rcases hm with rfl | hm
  · have hb : fwB c := fun x _ => by rw [hc]; omega
    obtain ⟨M, hM⟩ := fw_ends (n := n) (on := on) (ot := ot) hho hn (sumN c n).toNat c hb (by have := sumN_nn (c := c) n (fun x _ => by rw [hc]; omega); omega)
    rw [fw_done hh hn hc hM 51 (by omega) x hx, fw_done hh hn hc hM n (Nat.le_refl _) x hx]
  · exact (fw_done hh hn hc hm n (Nat.le_refl _) x hx).symm
/-- passes hang on what is below 50 alone -/
theorem fwStep_cg {t : Nat} (hh : ∀ j, j < n → (ho j).toNat < 50) (ht : t < n) {c d : Nat → Int} (h : ∀ x, x < 50 → d x = c x) : ∀ x, x < 50 → fwStep n on ot ho t d x = fwStep n on ot ho t c x := by
  have ho' := hh t ht
  have eo : ∀ u, fwOf d u = fwOf c u := fun u => by unfold fwOf; split; (exact h _ (by omega)); rfl
  intro x hx
  unfold fwStep
  rw [eo, eo, h _ ho']
  split
  · by_cases e : x = (ho t).toNat
    · subst e; rw [vup_s, vup_s]
    · rw [vup_n e, vup_n e]; exact h x hx
  · exact h x hx
theorem fwRun_cg (hh : ∀ j, j < n → (ho j).toNat < 50) : ∀ (k t : Nat) (c d : Nat → Int), t + k ≤ n → (∀ x, x < 50 → d x = c x) → ∀ x, x < 50 → fwRun n on ot ho k t d x = fwRun n on ot ho k t c x := by
  intro k
  induction k with
  | zero => intro t c d _ h; exact h
  | succ k ih => intro t c d ht h; exact ih (t + 1) _ _ (by omega) (fwStep_cg hh (by omega) h)
theorem fwN_cg (hh : ∀ j, j < n → (ho j).toNat < 50) {c d : Nat → Int} (h : ∀ x, x < 50 → d x = c x) : ∀ m, ∀ x, x < 50 → fwN n on ot ho d m x = fwN n on ot ho c m x := by
  intro m
  induction m with
  | zero => exact h
  | succ m ih => exact fwRun_cg hh n 0 _ _ (by omega) ih
theorem fwRun_row {on' ot' ho' : Nat → Int} (e : ∀ t, t < n → on' t = on t ∧ ot' t = ot t ∧ ho' t = ho t) : ∀ (k t : Nat) (c : Nat → Int), t + k ≤ n → fwRun n on' ot' ho' k t c = fwRun n on ot ho k t c := by
  intro k
  induction k with
  | zero => intro t c _; rfl
  | succ k ih =>
    intro t c ht
    obtain ⟨e1, e2, e3⟩ := e t (by omega)
    have es : fwStep n on' ot' ho' t c = fwStep n on ot ho t c := by
      unfold fwStep
      rw [e1, e2, e3, tmHome_cg (fun u hu => (e u hu).2.2), tmHome_cg (fun u hu => (e u hu).2.2)]
    simp only [fwRun]
    rw [es]
    exact ih (t + 1) _ (by omega)
theorem fwN_row {on' ot' ho' : Nat → Int} (e : ∀ t, t < n → on' t = on t ∧ ot' t = ot t ∧ ho' t = ho t) (c : Nat → Int) : ∀ m, fwN n on' ot' ho' c m = fwN n on ot ho c m := by
  intro m
  induction m with
  | zero => rfl
  | succ m ih => simp only [fwN]; rw [ih]; exact fwRun_row e n 0 _ (by omega)
end S82
/-- the fewest SIGNS of a CLASS -/
def costX (X : TS) (c : Int) : Int := fwOf (fwN X.1 X.2.2.1 X.2.2.2.1 X.2.2.2.2.2 (fun _ => 1000000) X.1) c
