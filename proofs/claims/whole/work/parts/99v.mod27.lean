/-! ===== 99v: FINDINGS are good (no machine); the reference: doesAll ===== -/
set_option maxRecDepth 20000 in
theorem ENW_C {n set : Nat} {ho : Nat → Int} {C : (Nat → Int) → Bool} (hC : ∀ ch ch' : Nat → Int, (∀ l, l < 3 → ch' l = ch l) → C ch' = C ch) : ∀ (k : Nat) (ch : Nat → Int), ∀ q ∈ ENW n set ho C k ch, C (chT q) = true := by
  intro k
  induction k with
  | zero =>
    intro ch q hq
    simp only [ENW] at hq
    split at hq
    · next z =>
      rw [List.mem_singleton] at hq
      subst hq
      rw [hC ch (chT (ch 0, ch 1, ch 2)) (fun l hl => by
        rcases (by omega : l = 0 ∨ l = 1 ∨ l = 2) with rfl | rfl | rfl
        · rfl
        · rfl
        · rfl)]
      exact z
    · cases hq
  | succ k ih =>
    intro ch q hq
    simp only [ENW] at hq
    split at hq
    · obtain ⟨c, _, hq⟩ := List.mem_flatMap.mp hq
      split at hq
      · exact ih _ q hq
      · cases hq
    · exact ih _ q hq
set_option maxRecDepth 20000 in
theorem ENW_let {n set : Nat} {ho : Nat → Int} {C : (Nat → Int) → Bool} : ∀ (k : Nat) (ch : Nat → Int), k ≤ 3 → (∀ l, l + k < 3 → set.testBit l = true → 0 ≤ ch l) → ∀ q ∈ ENW n set ho C k ch, ∀ l, l < 3 → set.testBit l = true → 0 ≤ chT q l := by
  intro k
  induction k with
  | zero =>
    intro ch _ h q hq l hl hs
    simp only [ENW] at hq
    split at hq
    · rw [List.mem_singleton] at hq
      subst hq
      have : chT (ch 0, ch 1, ch 2) l = ch l := by
        rcases (by omega : l = 0 ∨ l = 1 ∨ l = 2) with rfl | rfl | rfl
        · rfl
        · rfl
        · rfl
      rw [this]
      exact h l (by omega) hs
    · cases hq
  | succ k ih =>
    intro ch hk h q hq
    simp only [ENW] at hq
    split at hq
    · obtain ⟨c, hc, hq⟩ := List.mem_flatMap.mp hq
      split at hq
      · refine ih _ (by omega) (fun l hl hs => ?_) q hq
        by_cases e : l = 2 - k
        · subst e; rw [vup_s]; omega
        · rw [vup_n e]; exact h l (by omega) hs
      · cases hq
    · next z =>
      refine ih _ (by omega) (fun l hl hs => ?_) q hq
      by_cases e : l = 2 - k
      · subst e; exact absurd hs z
      · rw [vup_n e]; exact h l (by omega) hs
/-- what a FINDING is like -/
def FGd (n : Nat) (w : List Int) (r : Int) (e : E6) : Prop := e.1 = r ∧ (0 ≤ e.2.2.2.2.1 ∧ e.2.2.2.2.1 < n) ∧ (1 ≤ e.2.2.2.2.2 ∧ e.2.2.2.2.2 ≤ 10) ∧ (∀ l, l < 3 → -1 ≤ tmPart 0 e.2.1 e.2.2.1 e.2.2.2.1 0 0 l ∧ tmPart 0 e.2.1 e.2.2.1 e.2.2.2.1 0 0 l < n) ∧ ∀ l : Nat, l < 3 → (7 + (l : Int)) ∈ w → 0 ≤ tmPart 0 e.2.1 e.2.2.1 e.2.2.2.1 0 0 l
set_option maxRecDepth 20000 in
theorem fnd6_good {X : TS} (hX : XOK X) {w : List Int} (ht : TreeW w) (h9 : ∀ s ∈ w, 0 ≤ s ∧ s ≤ 9) {r : Int} {e : E6} (he : e ∈ fnd6 X w r) : FGd X.1 w r e := by
  have h9' : ∀ s ∈ w, s ≤ 9 := fun s hs => (h9 s hs).2
  obtain ⟨ok1, ok2⟩ := ht.ok
  have h50 := hX.1.1
  have hho := hX.1.2.2.1
  unfold fnd6 ENW6 at he
  obtain ⟨q, hq, rfl⟩ := List.mem_map.mp he
  have hq := List.mem_of_mem_take hq
  have hm := ENW_mem (P := fun x => 0 ≤ x ∧ x < X.1) (fun c hc _ => by omega) 3 _ (Nat.le_refl _) (fun l hl => by omega) q hq
  have hc := ENW_C (fun ch ch' h => by rw [evW_ch h w h9']) 3 _ q hq
  have hlt := ENW_let 3 _ (Nat.le_refl _) (fun l hl => by omega) q hq
  have hpt : ∀ l, l < 3 → tmPart 0 q.1 q.2.1 q.2.2 0 0 l = chT q l := fun l hl => by
    rcases (by omega : l = 0 ∨ l = 1 ∨ l = 2) with rfl | rfl | rfl
    · rfl
    · rfl
    · rfl
  have hpl : ∀ K, K < 2604 → ¬ plT X K < 0 → 0 ≤ plT X K ∧ plT X K < X.1 := fun K hK hn => by
    unfold plT at hn ⊢
    rcases tmScan_spec (P := fun j => (K : Int) = tKey X.1 X.2.1 X.2.2.1 X.2.2.2.1 X.2.2.2.2.2 j) X.1 0 with ⟨e1, _⟩ | ⟨j, e1, _, h2, _, _⟩
    · rw [if_pos e1] at hn; exact absurd (by decide) hn
    · rw [e1, if_neg (by omega)]
      have := hho j (by omega)
      rw [Int.toNat_natCast]
      exact ⟨this.1, by omega⟩
  have hP : 0 ≤ PlW (plT X) w q ∧ PlW (plT X) w q < X.1 := by
    unfold PlW
    cases he : evW (plT X) (chT q) w with
    | none => rw [he] at hc; cases hc
    | some st =>
      have hl := evW_len w st ok1 he
      rw [ok2] at hl
      have hin := evW_all (P := fun x => 0 ≤ x ∧ x < X.1) hpl (fun l hl z => by
        rcases hm l hl with y | y
        · omega
        · exact y) w st h9' he
      simp only [Option.getD_some]
      exact hin (st.getD 0 (-1)) (by
        cases st with
        | nil => simp at hl
        | cons a b => simp)
  have hlsb : ∀ c, c < 50 → 0 ≤ lsX X c ∧ lsX X c ≤ 9 := gnRun_b hX.1.2.2.2 X.1 0 _ (by omega) (fun _ _ => by decide) (fun t ht => by have := hho t ht; omega)
  have hG := gen3_b (pl := PlW (plT X) w q) (ch := chT q) hlsb 3 0 (svOf (lsX X) 50 0 (PlW (plT X) w q)) (by
    obtain ⟨j, hj⟩ : ∃ j : Nat, PlW (plT X) w q = (j : Int) := ⟨(PlW (plT X) w q).toNat, by omega⟩
    rw [hj, svOf_in (by omega)]
    exact hlsb j (by omega))
  refine ⟨rfl, hP, ?_, fun l hl => ?_, fun l hl hw => ?_⟩
  · show 1 ≤ GnW (lsX X) (plT X) w q ∧ GnW (lsX X) (plT X) w q ≤ 10
    unfold GnW
    omega
  · show -1 ≤ tmPart 0 q.1 q.2.1 q.2.2 0 0 l ∧ tmPart 0 q.1 q.2.1 q.2.2 0 0 l < X.1
    rw [hpt l hl]
    rcases hm l hl with y | y <;> omega
  · show 0 ≤ tmPart 0 q.1 q.2.1 q.2.2 0 0 l
    rw [hpt l hl]
    exact hlt _ hl ((letW_bit hl h9').mpr hw)
set_option maxRecDepth 20000 in
theorem FGd.eg {n : Nat} {rl : RuL} (hok : RlOK rl) {r : Nat} (hr : r < rl.length) {e : E6} (h : FGd n (rlL rl r) (r : Int) e) (h9 : e.2.2.2.2.2 ≤ 9) : EG n rl e := by
  obtain ⟨a, b, c, d, f⟩ := h
  have er : e.1.toNat = r := by omega
  refine ⟨by omega, b, by omega, fun s hs h7 => ?_⟩
  rw [er] at hs
  have o := hok.at hr
  have s9 := o.2.1 s hs
  have hl := o.2.2.1 s hs h7
  have es : 7 + (((s - 7).toNat : Nat) : Int) = s := by omega
  exact ⟨f (s - 7).toNat (by omega) (by rw [es]; exact hl), (d (s - 7).toNat (by omega)).2⟩
set_option maxRecDepth 20000 in
theorem fnd6_len (X : TS) (w : List Int) (r : Int) : (fnd6 X w r).length ≤ 200 := by
  unfold fnd6 ENW6 FNDW
  rw [List.length_map, List.length_take]
  omega
set_option maxRecDepth 20000 in
theorem runX_app {rl : RuL} : ∀ (a b : List E6) (X : TS) (C : Nat → Int) (u : Int), runX rl (a ++ b) X C u = runX rl b (runX rl a X C u).1 (runX rl a X C u).2.1 (runX rl a X C u).2.2 := by
  intro a
  induction a with
  | nil => intro b X C u; rfl
  | cons e a ih => intro b X C u; simp only [List.cons_append, runX]; exact ih _ _ _ _
set_option maxRecDepth 20000 in
theorem runX_add {rl : RuL} : ∀ (a : List E6) (X : TS) (C : Nat → Int) (u v : Int), runX rl a X C (u + v) = ((runX rl a X C v).1, (runX rl a X C v).2.1, u + (runX rl a X C v).2.2) := by
  intro a
  induction a with
  | nil => intro X C u v; rfl
  | cons e a ih => intro X C u v; simp only [runX]; rw [Int.add_assoc]; exact ih _ _ _ _
set_option maxRecDepth 20000 in
theorem doX_C {rl : RuL} {e : E6} {X : TS} (hX : XOK X) (hr : RlOK rl) (he : EG X.1 rl e) {C : Nat → Int} {B : Int} (hC : ∀ j, j < 5 → 0 ≤ C j ∧ C j ≤ B) : ∀ j, j < 5 → 0 ≤ (doX rl e X C).2.1 j ∧ (doX rl e X C).2.1 j ≤ B + 50 := by
  unfold doX
  cases hb : bW (ltOf X.1 X.2.2.2.2.2 e.2.1 e.2.2.1 e.2.2.2.1) e.2.2.2.2.2 (rlR rl e.1.toNat) [] X [] with
  | none =>
    intro j hj
    simp only
    by_cases z : j = 2
    · subst z; rw [vup_s]; have := hC 2 hj; omega
    · rw [vup_n z]; have := hC j hj; omega
  | some q =>
    obtain ⟨X1, ms⟩ := q
    obtain ⟨a, b, c, d, _⟩ := bR_ok hX.1 hr he hb
    have a1 := a.1
    have b1 := b.1
    intro j hj
    simp only
    by_cases z0 : j = 0
    · rw [if_pos z0]; have := hC 0 (by decide); omega
    · rw [if_neg z0]
      by_cases z3 : j = 3
      · rw [if_pos z3]; have := hC 3 (by decide); omega
      · rw [if_neg z3]
        by_cases z4 : j = 4
        · rw [if_pos z4]
          have := hC 4 (by decide)
          split <;> omega
        · rw [if_neg z4]; have := hC j hj; omega
set_option maxRecDepth 20000 in
theorem runX_C {rl : RuL} (hr : RlOK rl) : ∀ (es : List E6) (X : TS) (C : Nat → Int) (u B : Int), XOK X → (∀ e ∈ es, EG X.1 rl e) → (∀ j, j < 5 → 0 ≤ C j ∧ C j ≤ B) → (∀ j, j < 5 → 0 ≤ (runX rl es X C u).2.1 j ∧ (runX rl es X C u).2.1 j ≤ B + 50 * es.length) ∧ XOK (runX rl es X C u).1 ∧ X.1 ≤ (runX rl es X C u).1.1 := by
  intro es
  induction es with
  | nil => intro X C u B hX _ hC; exact ⟨fun j hj => by have := hC j hj; simp only [runX, List.length_nil]; omega, hX, Nat.le_refl _⟩
  | cons e es ih =>
    intro X C u B hX he hC
    have e0 := he e List.mem_cons_self
    have ok := doX_ok (C := C) hX hr e0
    have := ih (doX rl e X C).1 (doX rl e X C).2.1 (u + (doX rl e X C).2.2) (B + 50) ok.1 (fun x hx => (he x (List.mem_cons_of_mem _ hx)).mono ok.2) (doX_C hX hr e0 hC)
    simp only [runX, List.length_cons]
    refine ⟨fun j hj => ?_, this.2.1, Nat.le_trans ok.2 this.2.2⟩
    have := this.1 j hj
    omega
set_option maxRecDepth 20000 in
theorem DF.rfl' {I : Nat → Nat → Int} : DF I I := ⟨fun _ _ _ _ _ _ _ => rfl, fun _ _ _ _ => rfl, fun _ _ => rfl⟩
set_option maxRecDepth 20000 in
theorem DF.trans' {I J K : Nat → Nat → Int} (h : DF I J) (g : DF J K) : DF I K := ⟨fun a a1 a2 a3 a4 a5 a6 => (g.1 a a1 a2 a3 a4 a5 a6).trans (h.1 a a1 a2 a3 a4 a5 a6), fun k k1 k2 k3 => (g.2.1 k k1 k2 k3).trans (h.2.1 k k1 k2 k3), fun k hk => (g.2.2 k hk).trans (h.2.2 k hk)⟩
/-- which FINDINGS a doesAll takes -/
def isP (lim g p : Int) (e : E6) : Bool := decide (e.2.2.2.2.2 ≤ lim) && (decide (g < 0) || decide (e.2.2.2.2.2 = g)) && (decide (p < 0) || decide (e.2.2.2.2.1 = p))
set_option maxRecDepth 20000 in
theorem isP_iff {lim g p : Int} {e : E6} : isP lim g p e = true ↔ e.2.2.2.2.2 ≤ lim ∧ (g < 0 ∨ e.2.2.2.2.2 = g) ∧ (p < 0 ∨ e.2.2.2.2.1 = p) := by
  unfold isP
  simp only [Bool.and_eq_true, Bool.or_eq_true, decide_eq_true_eq, and_assoc]
abbrev DaPost (S : tmS) (I : Nat → Nat → Int) (L : Nat → Nat → Int64) (rl : RuL) (es : List E6) (X : TS) (C : Nat → Int) (u : Int) : Option tmV → tmH → Prop := fun q h' => q = some (tI (runX rl es X C u).2.2) ∧ ∃ I', h' = (S, I', L) ∧ MT I' (runX rl es X C u).1 ∧ (∀ j, j < 5 → I' 173 j = (runX rl es X C u).2.1 j) ∧ DF I I'
section S99v
variable {S : tmS} {I : Nat → Nat → Int} {L : Nat → Nat → Int64}
set_option maxRecDepth 20000 in
theorem doesAll_loop (hL : LX S) {rl : RuL} (h6 : rl.length ≤ 6) (hok : RlOK rl) (htr : RlT rl) {r : Nat} (hr : r < rl.length) {n0 : Nat} {T : List E6} (hF : FM I r T) (hT : ∀ e ∈ T, FGd n0 (rlL rl r) (r : Int) e) (hR : MRl (I 169) rl) {lim : Int} (hlim : I 172 1 = lim) (hl9 : 0 ≤ lim ∧ lim ≤ 9) {g p : Int} (hg : -1 ≤ g ∧ g ≤ 100) (hp : -1 ≤ p ∧ p ≤ 100) : ∀ (j k : Nat) (X : TS) (J : Nat → Nat → Int) (C : Nat → Int) (u B : Int) (a6 a7 : Option tmV), k + j = T.length → XOK X → n0 ≤ X.1 → MT J X → DF I J → (∀ j, j < 5 → J 173 j = C j ∧ 0 ≤ C j ∧ C j ≤ B) → B + 50 * (((T.drop k).filter (isP lim g p)).length : Int) ≤ 90000 →
    tmW kX12_doesAll 7 0 0 6 [some (tR 168), some (tI r), some (tI g), some (tI p), some (tI u), some (tI k), a6, a7] [] (S, J, L) (DaPost S I L rl ((T.drop k).filter (isP lim g p)) X C u) := by
  intro j
  have o168 := oX168 hL
  have r168_0 := rX168_0 hL
  have r168_1 := rX168_1 hL
  have r168_3 := rX168_3 hL
  have r168_4 := rX168_4 hL
  have r168_5 := rX168_5 hL
  have r168_6 := rX168_6 hL
  have r168_7 := rX168_7 hL
  have r168_8 := rX168_8 hL
  have r168_11 := rX168_11 hL
  have r168_13 := rX168_13 hL
  have r168_17 := rX168_17 hL
  have r168_18 := rX168_18 hL
  have r168_19 := rX168_19 hL
  have r168_21 := rX168_21 hL
  have r168_22 := rX168_22 hL
  have r168_23 := rX168_23 hL
  have r168_24 := rX168_24 hL
  have r168_25 := rX168_25 hL
  have r168_26 := rX168_26 hL
  have r168_27 := rX168_27 hL
  have r168_28 := rX168_28 hL
  have r168_29 := rX168_29 hL
  have r168_30 := rX168_30 hL
  have o172 := oX172 hL
  have o186 := oX186 hL
  have o187 := oX187 hL
  obtain ⟨t1, t2, t3⟩ := hF
  induction j with
  | zero =>
    intro k X J C u B a6 a7 hk hX hn hM hD hC hB
    have e7 : J 187 r = (T.length : Int) := by rw [hD.1 187 (by decide) (by decide) (by decide) (by decide) (by decide) (by decide)]; exact t1
    rw [List.drop_of_length_le (by omega)]
    refine wa_iload dX12_doesAll_6 rfl ?_
    refine wa_aload_n dX12_doesAll_8 rfl ?_
    refine wt_getR dX12_doesAll_9 FX12_64 (by assumption) (by assumption) ?_
    refine wa_iload_n dX12_doesAll_12 rfl ?_
    refine wt_iald r dX12_doesAll_13 (by assumption) rfl (by omega) ?_
    try first | rw [e7] | skip
    refine wa_icmp_ge 119 dX12_doesAll_14 (by decide) (by exact ⟨by omega, by omega⟩) (by exact ⟨by omega, by omega⟩) (fun c_14 => ?_) (fun c_14 => ?_)
    · refine wa_iload dX12_doesAll_119 rfl ?_
      refine wa_ireturn dX12_doesAll_121 rfl ?_
      exact ⟨rfl, J, rfl, hM, fun j hj => (hC j hj).1, hD⟩
    · omega
  | succ j ih =>
    intro k X J C u B a6 a7 hk hX hn hM hD hC hB
    have e7 : J 187 r = (T.length : Int) := by rw [hD.1 187 (by decide) (by decide) (by decide) (by decide) (by decide) (by decide)]; exact t1
    have e6 : J 186 = I 186 := hD.1 186 (by decide) (by decide) (by decide) (by decide) (by decide) (by decide)
    have e2 : J 172 1 = lim := by rw [hD.1 172 (by decide) (by decide) (by decide) (by decide) (by decide) (by decide)]; exact hlim
    have ck : k < T.length := by omega
    have ex := List.getElem?_eq_getElem ck
    obtain ⟨f0, f1, f2, f3, f4⟩ := t3 k _ ex
    have gd := hT T[k] (List.getElem_mem ck)
    obtain ⟨b, hb⟩ : ∃ b : Nat, b = 1000 * r + 5 * k := ⟨_, rfl⟩
    have eb : 1000 * (r : Int) + 5 * (k : Int) = (b : Int) := by omega
    have q3 : J 186 (b + 3) = T[k].2.2.2.2.1 := by rw [e6, hb]; exact f3
    have q4 : J 186 (b + 4) = T[k].2.2.2.2.2 := by rw [e6, hb]; exact f4
    have g2 := gd.2.1
    have g3 := gd.2.2.1
    have h50 := hX.1.1
    rw [List.drop_eq_getElem_cons ck] at hB ⊢
    -- behind the test
    have no : isP lim g p T[k] = false → tmW kX12_doesAll 7 0 0 85 [some (tR 168), some (tI r), some (tI g), some (tI p), some (tI u), some (tI k), some (tI b), a7] [] (S, J, L) (DaPost S I L rl ((T[k] :: T.drop (k + 1)).filter (isP lim g p)) X C u) := fun z => by
      rw [List.filter_cons_of_neg (by rw [z]; decide)] at hB ⊢
      have nx := ih (k + 1) X J C u B (some (tI b)) (some (tI 0)) (by omega) hX hn hM hD hC hB
      have e0 : u + 0 = u := by omega
      refine wa_iconst dX12_doesAll_85 ?_
      refine wa_istore dX12_doesAll_86 (by decide) ?_
      refine wa_iload dX12_doesAll_88 rfl ?_
      refine wa_iload dX12_doesAll_90 rfl ?_
      refine wa_if_eq 109 dX12_doesAll_92 (by decide) (by exact ⟨by omega, by omega⟩) (fun c_92 => ?_) (fun c_92 => ?_)
      · refine wa_iconst dX12_doesAll_109 ?_
        refine wa_iadd dX12_doesAll_110 ?_
        rw [e0]
        refine wa_istore dX12_doesAll_111 (by decide) ?_
        refine wa_iinc dX12_doesAll_113 rfl (by decide) ?_
        refine wa_goto 6 dX12_doesAll_116 (by decide) ?_
        exact nx
      · omega
    have yes : isP lim g p T[k] = true → tmW kX12_doesAll 7 0 0 81 [some (tR 168), some (tI r), some (tI g), some (tI p), some (tI u), some (tI k), some (tI b), a7] [] (S, J, L) (DaPost S I L rl ((T[k] :: T.drop (k + 1)).filter (isP lim g p)) X C u) := fun z => by
      rw [List.filter_cons_of_pos z] at hB ⊢
      have hl := (isP_iff.mp z).1
      have eg : EG X.1 rl T[k] := (gd.eg hok hr (by omega)).mono hn
      simp only [List.length_cons] at hB
      have kd := c_mdoes (I := J) (L := L) hL hX hM h6 hok (hR.cg h6 hok (fun x hx _ => hD.2.2 x hx)) htr (e := T[k]) (r := r) (k := k) gd.1 (by omega) eg (fun l hl => by
        have := gd.2.2.2.1 l hl
        refine ⟨?_, this.1, by omega⟩
        rw [e6]
        rcases (by omega : l = 0 ∨ l = 1 ∨ l = 2) with rfl | rfl | rfl
        · exact f0
        · exact f1
        · exact f2) (by rw [e6]; exact f3) (by rw [e6]; exact f4) (C := C) (fun j hj => by have := hC j hj; exact ⟨this.1, this.2.1, by omega⟩)
      have ok := doX_ok (C := C) hX hok eg
      have bd := doX_C (C := C) (B := B) hX hok eg (fun j hj => (hC j hj).2)
      have hu := doX_u (rl := rl) (e := T[k]) (X := X) (C := C)
      have nx : ∀ K : Nat → Nat → Int, MT K (doX rl T[k] X C).1 → (∀ j, j < 5 → K 173 j = (doX rl T[k] X C).2.1 j) → DF J K → tmW kX12_doesAll 7 0 0 6 [some (tR 168), some (tI r), some (tI g), some (tI p), some (tI (u + (doX rl T[k] X C).2.2)), some (tI ((k + 1 : Nat) : Int)), some (tI b), some (tI 1)] [] (S, K, L) (DaPost S I L rl (T[k] :: (T.drop (k + 1)).filter (isP lim g p)) X C u) := fun K m1 m2 m3 => by
        have := ih (k + 1) (doX rl T[k] X C).1 K (doX rl T[k] X C).2.1 (u + (doX rl T[k] X C).2.2) (B + 50) (some (tI b)) (some (tI 1)) (by omega) ok.1 (by omega) m1 (hD.trans' m3) (fun j hj => ⟨m2 j hj, bd j hj⟩) (by omega)
        exact this
      generalize (doX rl T[k] X C).2.2 = v at kd hu nx
      generalize hQ : DaPost S I L rl (T[k] :: (T.drop (k + 1)).filter (isP lim g p)) X C u = Q at nx ⊢
      have af : ∀ K : Nat → Nat → Int, MT K (doX rl T[k] X C).1 → (∀ j, j < 5 → K 173 j = (doX rl T[k] X C).2.1 j) → DF J K → tmW kX12_doesAll 7 0 0 102 [some (tR 168), some (tI r), some (tI g), some (tI p), some (tI u), some (tI k), some (tI b), some (tI 1)] [tI v, tI u] (S, K, L) Q := fun K m1 m2 m3 => by
        have nx := nx K m1 m2 m3
        rcases hu with rfl | rfl
        · refine wa_if_eq 109 dX12_doesAll_102 (by decide) (by exact ⟨by omega, by omega⟩) (fun c_102 => ?_) (fun c_102 => ?_)
          · refine wa_iconst dX12_doesAll_109 ?_
            refine wa_iadd dX12_doesAll_110 ?_
            refine wa_istore dX12_doesAll_111 (by decide) ?_
            refine wa_iinc dX12_doesAll_113 rfl (by decide) ?_
            refine wa_goto 6 dX12_doesAll_116 (by decide) ?_
            exact nx
          · omega
        · refine wa_if_eq 109 dX12_doesAll_102 (by decide) (by exact ⟨by omega, by omega⟩) (fun c_102 => ?_) (fun c_102 => ?_)
          · omega
          · refine wa_iconst dX12_doesAll_105 ?_
            refine wa_goto 110 dX12_doesAll_106 (by decide) ?_
            refine wa_iadd dX12_doesAll_110 ?_
            refine wa_istore dX12_doesAll_111 (by decide) ?_
            refine wa_iinc dX12_doesAll_113 rfl (by decide) ?_
            refine wa_goto 6 dX12_doesAll_116 (by decide) ?_
            exact nx
      refine wa_iconst dX12_doesAll_81 ?_
      refine wa_goto 86 dX12_doesAll_82 (by decide) ?_
      refine wa_istore dX12_doesAll_86 (by decide) ?_
      refine wa_iload dX12_doesAll_88 rfl ?_
      refine wa_iload dX12_doesAll_90 rfl ?_
      refine wa_if_eq 109 dX12_doesAll_92 (by decide) (by exact ⟨by omega, by omega⟩) (fun c_92 => ?_) (fun c_92 => ?_)
      · omega
      · refine wa_aload_n dX12_doesAll_95 rfl ?_
        refine wa_iload_n dX12_doesAll_96 rfl ?_
        refine wa_iload dX12_doesAll_97 rfl ?_
        refine wa_callV (ci := 12) dX12_doesAll_99 KX12_does LX12_182 ⟨_, _, rfl, by decide⟩ o168 (kd) (by decide) rfl (Nat.le_of_ble_eq_true rfl) rfl rfl (fun r h' hq => ?_)
        obtain ⟨rfl, K, rfl, m1, m2, m3⟩ := hq
        exact af K m1 m2 m3
    have p64 : T[k].2.2.2.2.2 ≤ lim → (g < 0 ∨ T[k].2.2.2.2.2 = g) → tmW kX12_doesAll 7 0 0 64 [some (tR 168), some (tI r), some (tI g), some (tI p), some (tI u), some (tI k), some (tI b), a7] [] (S, J, L) (DaPost S I L rl ((T[k] :: T.drop (k + 1)).filter (isP lim g p)) X C u) := fun z1 z2 => by
      refine wa_iload_n dX12_doesAll_64 rfl ?_
      refine wa_if_lt 81 dX12_doesAll_65 (by decide) (by exact ⟨by omega, by omega⟩) (fun c_65 => ?_) (fun c_65 => ?_)
      · exact yes (isP_iff.mpr ⟨z1, z2, by omega⟩)
      · refine wa_aload_n dX12_doesAll_68 rfl ?_
        refine wt_getR dX12_doesAll_69 FX12_61 (by assumption) (by assumption) ?_
        refine wa_iload dX12_doesAll_72 rfl ?_
        refine wa_iconst dX12_doesAll_74 ?_
        refine wa_iadd dX12_doesAll_75 ?_
        refine wt_iald (b + 3) dX12_doesAll_76 (by assumption) (by omega) (by omega) ?_
        try first | rw [q3] | skip
        refine wa_iload_n dX12_doesAll_77 rfl ?_
        refine wa_icmp_ne 85 dX12_doesAll_78 (by decide) (by exact ⟨by omega, by omega⟩) (by exact ⟨by omega, by omega⟩) (fun c_78 => ?_) (fun c_78 => ?_)
        · exact no (by cases hz : isP lim g p T[k] with
            | false => rfl
            | true => have := isP_iff.mp hz; omega)
        · exact yes (isP_iff.mpr ⟨z1, z2, by omega⟩)
    refine wa_iload dX12_doesAll_6 rfl ?_
    refine wa_aload_n dX12_doesAll_8 rfl ?_
    refine wt_getR dX12_doesAll_9 FX12_64 (by assumption) (by assumption) ?_
    refine wa_iload_n dX12_doesAll_12 rfl ?_
    refine wt_iald r dX12_doesAll_13 (by assumption) rfl (by omega) ?_
    try first | rw [e7] | rw [q4] | rw [e2] | skip
    refine wa_icmp_ge 119 dX12_doesAll_14 (by decide) (by exact ⟨by omega, by omega⟩) (by exact ⟨by omega, by omega⟩) (fun c_14 => ?_) (fun c_14 => ?_)
    · omega
    · refine wa_sipush dX12_doesAll_17 rfl ?_
      refine wa_iload_n dX12_doesAll_20 rfl ?_
      refine wa_imul dX12_doesAll_21 ?_
      refine wa_iconst dX12_doesAll_22 ?_
      refine wa_iload dX12_doesAll_23 rfl ?_
      refine wa_imul dX12_doesAll_25 ?_
      refine wa_iadd dX12_doesAll_26 ?_
      rw [eb]
      refine wa_istore dX12_doesAll_27 (by decide) ?_
      refine wa_aload_n dX12_doesAll_29 rfl ?_
      refine wt_getR dX12_doesAll_30 FX12_61 (by assumption) (by assumption) ?_
      refine wa_iload dX12_doesAll_33 rfl ?_
      refine wa_iconst dX12_doesAll_35 ?_
      refine wa_iadd dX12_doesAll_36 ?_
      refine wt_iald (b + 4) dX12_doesAll_37 (by assumption) (by omega) (by omega) ?_
      try first | rw [e7] | rw [q4] | rw [e2] | skip
      refine wa_aload_n dX12_doesAll_38 rfl ?_
      refine wt_getR dX12_doesAll_39 FX12_19 (by assumption) (by assumption) ?_
      refine wa_iconst dX12_doesAll_42 ?_
      refine wt_iald 1 dX12_doesAll_43 (by assumption) rfl (by omega) ?_
      try first | rw [e7] | rw [q4] | rw [e2] | skip
      refine wa_icmp_gt 85 dX12_doesAll_44 (by decide) (by exact ⟨by omega, by omega⟩) (by exact ⟨by omega, by omega⟩) (fun c_44 => ?_) (fun c_44 => ?_)
      · exact no (by cases hz : isP lim g p T[k] with
          | false => rfl
          | true => have := isP_iff.mp hz; omega)
      · refine wa_iload_n dX12_doesAll_47 rfl ?_
        refine wa_if_lt 64 dX12_doesAll_48 (by decide) (by exact ⟨by omega, by omega⟩) (fun c_48 => ?_) (fun c_48 => ?_)
        · exact p64 (by omega) (by omega)
        · refine wa_aload_n dX12_doesAll_51 rfl ?_
          refine wt_getR dX12_doesAll_52 FX12_61 (by assumption) (by assumption) ?_
          refine wa_iload dX12_doesAll_55 rfl ?_
          refine wa_iconst dX12_doesAll_57 ?_
          refine wa_iadd dX12_doesAll_58 ?_
          refine wt_iald (b + 4) dX12_doesAll_59 (by assumption) (by omega) (by omega) ?_
          try first | rw [e7] | rw [q4] | rw [e2] | skip
          refine wa_iload_n dX12_doesAll_60 rfl ?_
          refine wa_icmp_ne 85 dX12_doesAll_61 (by decide) (by exact ⟨by omega, by omega⟩) (by exact ⟨by omega, by omega⟩) (fun c_61 => ?_) (fun c_61 => ?_)
          · exact no (by cases hz : isP lim g p T[k] with
              | false => rfl
              | true => have := isP_iff.mp hz; omega)
          · exact p64 (by omega) (by omega)
set_option maxRecDepth 20000 in
theorem c_mdoesAll (hL : LX S) {rl : RuL} (h6 : rl.length ≤ 6) (hok : RlOK rl) (htr : RlT rl) {r : Nat} (hr : r < rl.length) {n0 : Nat} {T : List E6} (hF : FM I r T) (hT : ∀ e ∈ T, FGd n0 (rlL rl r) (r : Int) e) (hR : MRl (I 169) rl) {lim : Int} (hlim : I 172 1 = lim) (hl9 : 0 ≤ lim ∧ lim ≤ 9) {g p : Int} (hg : -1 ≤ g ∧ g ≤ 100) (hp : -1 ≤ p ∧ p ≤ 100) {X : TS} {C : Nat → Int} {B : Int} (hX : XOK X) (hn : n0 ≤ X.1) (hM : MT I X) (hC : ∀ j, j < 5 → I 173 j = C j ∧ 0 ≤ C j ∧ C j ≤ B) (hB : B + 50 * ((T.filter (isP lim g p)).length : Int) ≤ 90000) :
    tmC yX12_doesAll kX12_doesAll 7 0 0 [tR 168, tI r, tI g, tI p] (S, I, L) (DaPost S I L rl (T.filter (isP lim g p)) X C 0) := by
  refine tmC.mk (lv := [some (tR 168), some (tI r), some (tI g), some (tI p), none, none, none, none]) 4 ⟨rfl, by decide +kernel, by decide⟩ rfl rfl ?_
  have lp := doesAll_loop (I := I) (L := L) hL h6 hok htr hr hF hT hR hlim hl9 hg hp T.length 0 X I C 0 B none none (by omega) hX hn hM DF.rfl' hC (by rw [List.drop_zero]; exact hB)
  rw [List.drop_zero] at lp
  refine wa_iconst dX12_doesAll_0 ?_
  refine wa_istore dX12_doesAll_1 (by decide) ?_
  refine wa_iconst dX12_doesAll_3 ?_
  refine wa_istore dX12_doesAll_4 (by decide) ?_
  exact lp
end S99v
