/-! ===== 99y: the reference: goesRound, round, rounds ===== -/
set_option maxRecDepth 20000 in
theorem flat_len {f : Nat → List E6} {B : Nat} (h : ∀ r, (f r).length ≤ B) : ∀ n, ((List.range n).flatMap f).length ≤ B * n := by
  intro n
  induction n with
  | zero => simp
  | succ n ih =>
    rw [List.range_succ, List.flatMap_append, List.length_append]
    have := h n
    have e : ([n].flatMap f).length = (f n).length := by simp
    rw [e, Nat.mul_succ]
    omega
set_option maxRecDepth 20000 in
theorem tdsX_len (X : TS) (rl : RuL) (lim : Int) : (tdsX X rl lim).length ≤ 200 * rl.length := by
  unfold tdsX
  exact flat_len (fun r => Nat.le_trans (List.length_filter_le _ _) (fnd6_len X _ _)) _
set_option maxRecDepth 20000 in
theorem lateX_le (X : TS) (rl : RuL) (lim : Int) : ∀ r, lateX X rl lim r ≤ 200 * r := by
  intro r
  induction r with
  | zero => simp [lateX]
  | succ r ih =>
    have := Nat.le_trans (List.length_filter_le (fun e => !notLate lim e) (fnd6 X (rlL rl r) (r : Int))) (fnd6_len X _ _)
    simp only [lateX]
    omega
/-- RULES below r are looked up -/
def GB (I J : Nat → Nat → Int) (X : TS) (rl : RuL) (lim : Int) (r : Nat) : Prop := (∀ a, a ≠ 173 → a ≠ 182 → a ≠ 183 → a ≠ 184 → a ≠ 185 → a ≠ 186 → a ≠ 187 → a ≠ 188 → a ≠ 189 → J a = I a) ∧ (∀ K, K < 2604 → plM J K = plT X K) ∧ (∀ c, c < X.1 → X.2.2.2.2.2 c = (c : Int) → J 185 c = lsX X c) ∧ (∀ x, x < r → FM J x (fnd6 X (rlL rl x) (x : Int))) ∧ ∀ j, j < 5 → J 173 j = if j = 1 then (lateX X rl lim r : Int) else 0
section S99y
variable {S : tmS} {I : Nat → Nat → Int} {L : Nat → Nat → Int64}
set_option maxRecDepth 20000 in
theorem gr_find (hL : LX S) {X : TS} (hX : XOK X) {rl : RuL} (h6 : rl.length ≤ 6) (hok : RlOK rl) (htr : RlT rl) (hM : MT I X) (hR : MRl (I 169) rl) {lim : Int} (hlim : I 172 1 = lim) (hl9 : 0 ≤ lim ∧ lim ≤ 9) (a4 a5 : Option tmV) (Q : Option tmV → tmH → Prop) : ∀ (j r : Nat) (J : Nat → Nat → Int) (a3 : Option tmV), r + j = rl.length → GB I J X rl lim r →
    (∀ (J' : Nat → Nat → Int) (a3' : Option tmV), GB I J' X rl lim rl.length → tmW kX12_goesRound 8 0 0 106 [some (tR 168), some (tI rl.length), some (tI rl.length), a3', a4, a5] [] (S, J', L) Q) →
    tmW kX12_goesRound 8 0 0 33 [some (tR 168), some (tI rl.length), some (tI r), a3, a4, a5] [] (S, J, L) Q := by
  intro j
  have o168 := oX168 hL
  have r168_0 := rX168_0 hL
  have r168_1 := rX168_1 hL
  have r168_3 := rX168_3 hL
  have r168_4 := rX168_4 hL
  have r168_5 := rX168_5 hL
  have r168_6 := rX168_6 hL
  have r168_7 := rX168_7 hL
  have r168_8 := rX168_8 hL
  have r168_11 := rX168_11 hL
  have r168_13 := rX168_13 hL
  have r168_17 := rX168_17 hL
  have r168_18 := rX168_18 hL
  have r168_19 := rX168_19 hL
  have r168_21 := rX168_21 hL
  have r168_22 := rX168_22 hL
  have r168_23 := rX168_23 hL
  have r168_24 := rX168_24 hL
  have r168_25 := rX168_25 hL
  have r168_26 := rX168_26 hL
  have r168_27 := rX168_27 hL
  have r168_28 := rX168_28 hL
  have r168_29 := rX168_29 hL
  have r168_30 := rX168_30 hL
  induction j with
  | zero =>
    intro r J a3 hr hs kk
    obtain rfl : r = rl.length := by omega
    have := kk J a3 hs
    refine wa_iload_n dX12_goesRound_33 rfl ?_
    refine wa_iload_n dX12_goesRound_34 rfl ?_
    refine wa_icmp_ge 106 dX12_goesRound_35 (by decide) (by exact ⟨by omega, by omega⟩) (by exact ⟨by omega, by omega⟩) (fun c_35 => ?_) (fun c_35 => ?_)
    · exact this
    · omega
  | succ j ih =>
    intro r J a3 hr hs kk
    have hrl : r < rl.length := by omega
    obtain ⟨s1, s2, s3, s4, s5⟩ := hs
    have e9 : J 169 = I 169 := s1 169 (by decide) (by decide) (by decide) (by decide) (by decide) (by decide) (by decide) (by decide) (by decide)
    have e2 : J 172 = I 172 := s1 172 (by decide) (by decide) (by decide) (by decide) (by decide) (by decide) (by decide) (by decide) (by decide)
    have kf := c_mfinds (I := J) (L := L) hL hX (r := r) (wl := rlL rl r) (wr := rlR rl r) (by unfold MT; rw [e9]; exact hM) ((hR.mw h6 hok hrl).row e9) (htr.at hrl).1 s2 s3
    have ll := lateX_le X rl lim r
    have nx : ∀ K : Nat → Nat → Int, FS J K r (fnd6 X (rlL rl r) r) → tmW kX12_goesRound 8 0 0 43 [some (tR 168), some (tI rl.length), some (tI r), a3, a4, a5] [] (S, K, L) Q := fun K hK => by
      obtain ⟨k1, k2, k3, k4⟩ := hK
      have k173 := k1 173 (by decide) (by decide) (by decide) (by decide)
      have lt := gr_late (S := S) (L := L) hL (r := r) (by omega) (T := fnd6 X (rlL rl r) r) (lim := lim) (fun e he => (fnd6_good hX (htr.at hrl).1 (hok.at hrl).1 he).2.2.1) hl9 (nr := rl.length) a4 a5 Q (fnd6 X (rlL rl r) r).length 0 (lateX X rl lim r) K (by omega) k4 (by rw [k1 172 (by decide) (by decide) (by decide) (by decide), e2]; exact hlim) (by rw [k173]; exact s5 1 (by decide)) (by have := fnd6_len X (rlL rl r) r; omega) (fun J' j1 j2 j3 => by
        have g : GB I J' X rl lim (r + 1) := by
          refine ⟨fun a a1 a2 a3 a4 a5 a6 a7 a8 a9 => by rw [j1 a a1, k1 a a6 a7 a8 a9]; exact s1 a a1 a2 a3 a4 a5 a6 a7 a8 a9, fun K' hK' => ?_, fun c hc hc2 => ?_, fun x hx => ?_, fun y hy => ?_⟩
          · rw [plM_cg ((j1 182 (by decide)).trans (k1 182 (by decide) (by decide) (by decide) (by decide))) ((j1 183 (by decide)).trans (k1 183 (by decide) (by decide) (by decide) (by decide))) ((j1 184 (by decide)).trans (k1 184 (by decide) (by decide) (by decide) (by decide)))]
            exact s2 K' hK'
          · rw [j1 185 (by decide), k1 185 (by decide) (by decide) (by decide) (by decide)]
            exact s3 c hc hc2
          · by_cases z : x = r
            · subst z; exact k4.cg (j1 187 (by decide)) (j1 186 (by decide))
            · obtain ⟨f1, f2, f3⟩ := s4 x (by omega)
              have f186 : ∀ y, y < 1000 * r → J' 186 y = J 186 y := fun y hy => by rw [j1 186 (by decide)]; exact k3 y (by omega)
              refine ⟨by rw [j1 187 (by decide), k2 x z]; exact f1, f2, fun k e he => ?_⟩
              have hk : k < (fnd6 X (rlL rl x) (x : Int)).length := by
                by_cases w : k < (fnd6 X (rlL rl x) (x : Int)).length
                · exact w
                · rw [List.getElem?_eq_none (by omega)] at he; cases he
              rw [f186 _ (by omega), f186 _ (by omega), f186 _ (by omega), f186 _ (by omega), f186 _ (by omega)]
              exact f3 k e he
          · by_cases z : y = 1
            · subst z
              rw [if_pos rfl, j3, List.drop_zero]
              rfl
            · rw [if_neg z, j2 y z, k173]
              have := s5 y hy
              rw [if_neg z] at this
              exact this
        have nx := ih (r + 1) J' (some (tI (fnd6 X (rlL rl r) r).length)) (by omega) g kk
        refine wa_iinc dX12_goesRound_100 rfl (by decide) ?_
        refine wa_goto 33 dX12_goesRound_103 (by decide) ?_
        exact nx
        )
      refine wa_iconst dX12_goesRound_43 ?_
      refine wa_istore_n dX12_goesRound_44 (by decide) ?_
      exact lt
    refine wa_iload_n dX12_goesRound_33 rfl ?_
    refine wa_iload_n dX12_goesRound_34 rfl ?_
    refine wa_icmp_ge 106 dX12_goesRound_35 (by decide) (by exact ⟨by omega, by omega⟩) (by exact ⟨by omega, by omega⟩) (fun c_35 => ?_) (fun c_35 => ?_)
    · omega
    · refine wa_aload_n dX12_goesRound_38 rfl ?_
      refine wa_iload_n dX12_goesRound_39 rfl ?_
      refine wa_callV (ci := 12) dX12_goesRound_40 KX12_finds LX12_163 ⟨_, _, rfl, by decide⟩ o168 (kf) (by decide) rfl (Nat.le_of_ble_eq_true rfl) rfl rfl (fun r h' hq => ?_)
      obtain ⟨rfl, K, rfl, hK⟩ := hq
      exact nx K hK
set_option maxRecDepth 20000 in
theorem gr_zero (hL : LX S) (Q : Option tmV → tmH → Prop) (a2 a3 a4 a5 : Option tmV) (kk : ∀ J : Nat → Nat → Int, (∀ a, a ≠ 173 → J a = I a) → (∀ x, x < 5 → J 173 x = 0) → tmW kX12_goesRound 8 0 0 24 [some (tR 168), some (tI (5 : Nat)), a2, a3, a4, a5] [] (S, J, L) Q) : ∀ (j k : Nat) (J : Nat → Nat → Int), k + j = 5 → (∀ a, a ≠ 173 → J a = I a) → (∀ x, x < k → J 173 x = 0) → tmW kX12_goesRound 8 0 0 6 [some (tR 168), some (tI k), a2, a3, a4, a5] [] (S, J, L) Q := by
  intro j
  have o168 := oX168 hL
  have r168_0 := rX168_0 hL
  have r168_1 := rX168_1 hL
  have r168_3 := rX168_3 hL
  have r168_4 := rX168_4 hL
  have r168_5 := rX168_5 hL
  have r168_6 := rX168_6 hL
  have r168_7 := rX168_7 hL
  have r168_8 := rX168_8 hL
  have r168_11 := rX168_11 hL
  have r168_13 := rX168_13 hL
  have r168_17 := rX168_17 hL
  have r168_18 := rX168_18 hL
  have r168_19 := rX168_19 hL
  have r168_21 := rX168_21 hL
  have r168_22 := rX168_22 hL
  have r168_23 := rX168_23 hL
  have r168_24 := rX168_24 hL
  have r168_25 := rX168_25 hL
  have r168_26 := rX168_26 hL
  have r168_27 := rX168_27 hL
  have r168_28 := rX168_28 hL
  have r168_29 := rX168_29 hL
  have r168_30 := rX168_30 hL
  have o173 := oX173 hL
  induction j with
  | zero =>
    intro k J hk h1 h2
    obtain rfl : k = 5 := by omega
    have := kk J h1 h2
    refine wa_iload_n dX12_goesRound_6 rfl ?_
    refine wa_iconst dX12_goesRound_7 ?_
    refine wa_icmp_ge 24 dX12_goesRound_8 (by decide) (by exact ⟨by omega, by omega⟩) (by exact ⟨by omega, by omega⟩) (fun c_8 => ?_) (fun c_8 => ?_)
    · exact this
    · omega
  | succ j ih =>
    intro k J hk h1 h2
    have nx := ih (k + 1) (va_up J 173 (va_up (J 173) k 0)) (by omega) (fun a ha => by rw [vup_n ha]; exact h1 a ha) (fun x hx => by
      rw [vup_s]
      by_cases z : x = k
      · subst z; rw [vup_s]
      · rw [vup_n z]; exact h2 x (by omega))
    refine wa_iload_n dX12_goesRound_6 rfl ?_
    refine wa_iconst dX12_goesRound_7 ?_
    refine wa_icmp_ge 24 dX12_goesRound_8 (by decide) (by exact ⟨by omega, by omega⟩) (by exact ⟨by omega, by omega⟩) (fun c_8 => ?_) (fun c_8 => ?_)
    · omega
    · refine wa_aload_n dX12_goesRound_11 rfl ?_
      refine wt_getR dX12_goesRound_12 FX12_22 (by assumption) (by assumption) ?_
      refine wa_iload_n dX12_goesRound_15 rfl ?_
      refine wa_iconst dX12_goesRound_16 ?_
      refine wt_iast k dX12_goesRound_17 (by assumption) rfl (by omega) (by exact ⟨by omega, by omega⟩) ?_
      refine wa_iinc dX12_goesRound_18 rfl (by decide) ?_
      refine wa_goto 6 dX12_goesRound_21 (by decide) ?_
      exact nx
set_option maxRecDepth 20000 in
theorem c_mgoes {m : Nat} {A : AS} (hL : LX S) (ha : AOK m A) (h : MR I A) (ht : RlT A.1.2) : tmC yX12_goesRound kX12_goesRound 8 0 0 [tR 168] (S, I, L) (GrPost S I L (rndX A)) := by
  refine tmC.mk (lv := [some (tR 168), none, none, none, none, none]) 5 ⟨rfl, by decide +kernel, by decide⟩ rfl rfl ?_
  have o168 := oX168 hL
  have r168_0 := rX168_0 hL
  have r168_1 := rX168_1 hL
  have r168_3 := rX168_3 hL
  have r168_4 := rX168_4 hL
  have r168_5 := rX168_5 hL
  have r168_6 := rX168_6 hL
  have r168_7 := rX168_7 hL
  have r168_8 := rX168_8 hL
  have r168_11 := rX168_11 hL
  have r168_13 := rX168_13 hL
  have r168_17 := rX168_17 hL
  have r168_18 := rX168_18 hL
  have r168_19 := rX168_19 hL
  have r168_21 := rX168_21 hL
  have r168_22 := rX168_22 hL
  have r168_23 := rX168_23 hL
  have r168_24 := rX168_24 hL
  have r168_25 := rX168_25 hL
  have r168_26 := rX168_26 hL
  have r168_27 := rX168_27 hL
  have r168_28 := rX168_28 hL
  have r168_29 := rX168_29 hL
  have r168_30 := rX168_30 hL
  have o169 := oX169 hL
  have o172 := oX172 hL
  have kt := c_mtable (L := L) hL ha.1.1 h.1.1
  have hX := ha.1.1
  have h50 := hX.1.1
  have h6 := ha.1.2.1
  have hok := ha.1.2.2
  have hl9 := ha.2.2.2.2.1
  have hod := ha.2.2.2.1
  obtain ⟨q0, q1⟩ := h.2.2.2.1
  have hT : ∀ r, r < A.1.2.length → ∀ e ∈ fnd6 A.1.1 (rlL A.1.2 r) (r : Int), FGd A.1.1.1 (rlL A.1.2 r) (r : Int) e := fun r hr e he => fnd6_good hX (ht.at hr).1 (hok.at hr).1 he
  have ro := rf_ord h6 hl9.2 hod h50 hT
  -- behind the looking up
  have p106 : ∀ (J : Nat → Nat → Int) (a2 a3 : Option tmV), GB I J A.1.1 A.1.2 A.2.2.1.2 A.1.2.length → tmW kX12_goesRound 8 0 0 106 [some (tR 168), some (tI A.1.2.length), a2, a3, none, none] [] (S, J, L) (GrPost S I L (rndX A)) := fun J a2 a3 hJ => by
    obtain ⟨s1, s2, s3, s4, s5⟩ := hJ
    have e9 : J 169 = I 169 := s1 169 (by decide) (by decide) (by decide) (by decide) (by decide) (by decide) (by decide) (by decide) (by decide)
    have e2 : J 172 = I 172 := s1 172 (by decide) (by decide) (by decide) (by decide) (by decide) (by decide) (by decide) (by decide) (by decide)
    have e0 : J 172 0 = A.2.2.1.1 := by rw [e2]; exact q0
    have gq : GQ J A.1.1 A.1.2 A.2.2.1.2 A.2.2.1.1 := ⟨h6, hok, ht, fun r hr => ⟨s4 r hr, hT r hr⟩, by rw [e9]; exact h.1.2, by rw [e2]; exact q1, hl9, e0, hod⟩
    have fr : GRF I J := ⟨fun a ha => s1 a (by omega) (by omega) (by omega) (by omega) (by omega) (by omega) (by omega) (by omega) (by omega), fun k _ _ _ => by rw [s1 168 (by decide) (by decide) (by decide) (by decide) (by decide) (by decide) (by decide) (by decide) (by decide)], fun k _ => by rw [e9]⟩
    have ll := lateX_le A.1.1 A.1.2 A.2.2.1.2 A.1.2.length
    have gs : GS J J A.1.1.1 A.1.1 (fun j => if j = 1 then (lateX A.1.1 A.1.2 A.2.2.1.2 A.1.2.length : Int) else 0) 1200 := ⟨hX, Nat.le_refl _, by unfold MT; rw [e9]; exact h.1.1, DF.rfl', fun j hj => ⟨s5 j hj, by dsimp only; split <;> omega, by dsimp only; split <;> omega⟩⟩
    have go := gr_out (I := J) (L := L) hL gq (tm := tiP A.2.2.1.1) (by unfold tiP; split; omega; split <;> omega) (tiP A.2.2.1.1) 0 J A.1.1 _ 0 1200 none (by omega) gs
    simp only [← List.range_eq_range'] at go
    have el : ((List.range (tiP A.2.2.1.1)).flatMap (fun t => (List.range A.1.2.length).flatMap (rfL A.1.1 A.1.2 A.2.2.1.2 A.2.2.1.1 t))) = ORD A.2.2.1.1 (tdsX A.1.1 A.1.2 A.2.2.1.2) := ro
    rw [el] at go
    have go := go (by
      have := ORD_le A.2.2.1.1 (tdsX A.1.1 A.1.2 A.2.2.1.2)
      have := tdsX_len A.1.1 A.1.2 A.2.2.1.2
      omega)
    have go : tmW kX12_goesRound 8 0 0 143 [some (tR 168), some (tI A.1.2.length), some (tI 0), some (tI (tiP A.2.2.1.1 : Nat)), some (tI (0 : Nat)), none] [] (S, J, L) (GrPost S I L (rndX A)) := go.wk (fun q h' hq => by
      obtain ⟨rfl, K, rfl, m1, m2, m3⟩ := hq
      exact ⟨rfl, K, rfl, m1, m2, fr.trans' m3⟩)
    generalize A.2.2.1.1 = od at e0 hod go
    rcases (by omega : od = 0 ∨ od = 1 ∨ od = 2 ∨ od = 3) with rfl | rfl | rfl | rfl
    · refine wa_iconst dX12_goesRound_106 ?_
      refine wa_istore_n dX12_goesRound_107 (by decide) ?_
      refine wa_aload_n dX12_goesRound_108 rfl ?_
      refine wt_getR dX12_goesRound_109 FX12_19 (by assumption) (by assumption) ?_
      refine wa_iconst dX12_goesRound_112 ?_
      refine wt_iald 0 dX12_goesRound_113 (by assumption) rfl (by omega) ?_
      try first | rw [e0] | skip
      refine wa_iconst dX12_goesRound_114 ?_
      refine wa_icmp_ne 123 dX12_goesRound_115 (by decide) (by exact ⟨by omega, by omega⟩) (by exact ⟨by omega, by omega⟩) (fun c_115 => ?_) (fun c_115 => ?_)
      · refine wa_aload_n dX12_goesRound_123 rfl ?_
        refine wt_getR dX12_goesRound_124 FX12_19 (by assumption) (by assumption) ?_
        refine wa_iconst dX12_goesRound_127 ?_
        refine wt_iald 0 dX12_goesRound_128 (by assumption) rfl (by omega) ?_
        try first | rw [e0] | skip
        refine wa_iconst dX12_goesRound_129 ?_
        refine wa_icmp_ne 138 dX12_goesRound_130 (by decide) (by exact ⟨by omega, by omega⟩) (by exact ⟨by omega, by omega⟩) (fun c_130 => ?_) (fun c_130 => ?_)
        · refine wa_iconst dX12_goesRound_138 ?_
          refine wa_istore_n dX12_goesRound_139 (by decide) ?_
          refine wa_iconst dX12_goesRound_140 ?_
          refine wa_istore dX12_goesRound_141 (by decide) ?_
          exact go
        · omega
      · omega
    · refine wa_iconst dX12_goesRound_106 ?_
      refine wa_istore_n dX12_goesRound_107 (by decide) ?_
      refine wa_aload_n dX12_goesRound_108 rfl ?_
      refine wt_getR dX12_goesRound_109 FX12_19 (by assumption) (by assumption) ?_
      refine wa_iconst dX12_goesRound_112 ?_
      refine wt_iald 0 dX12_goesRound_113 (by assumption) rfl (by omega) ?_
      try first | rw [e0] | skip
      refine wa_iconst dX12_goesRound_114 ?_
      refine wa_icmp_ne 123 dX12_goesRound_115 (by decide) (by exact ⟨by omega, by omega⟩) (by exact ⟨by omega, by omega⟩) (fun c_115 => ?_) (fun c_115 => ?_)
      · omega
      · refine wa_bipush dX12_goesRound_118 rfl ?_
        refine wa_goto 139 dX12_goesRound_120 (by decide) ?_
        refine wa_istore_n dX12_goesRound_139 (by decide) ?_
        refine wa_iconst dX12_goesRound_140 ?_
        refine wa_istore dX12_goesRound_141 (by decide) ?_
        exact go
    · refine wa_iconst dX12_goesRound_106 ?_
      refine wa_istore_n dX12_goesRound_107 (by decide) ?_
      refine wa_aload_n dX12_goesRound_108 rfl ?_
      refine wt_getR dX12_goesRound_109 FX12_19 (by assumption) (by assumption) ?_
      refine wa_iconst dX12_goesRound_112 ?_
      refine wt_iald 0 dX12_goesRound_113 (by assumption) rfl (by omega) ?_
      try first | rw [e0] | skip
      refine wa_iconst dX12_goesRound_114 ?_
      refine wa_icmp_ne 123 dX12_goesRound_115 (by decide) (by exact ⟨by omega, by omega⟩) (by exact ⟨by omega, by omega⟩) (fun c_115 => ?_) (fun c_115 => ?_)
      · refine wa_aload_n dX12_goesRound_123 rfl ?_
        refine wt_getR dX12_goesRound_124 FX12_19 (by assumption) (by assumption) ?_
        refine wa_iconst dX12_goesRound_127 ?_
        refine wt_iald 0 dX12_goesRound_128 (by assumption) rfl (by omega) ?_
        try first | rw [e0] | skip
        refine wa_iconst dX12_goesRound_129 ?_
        refine wa_icmp_ne 138 dX12_goesRound_130 (by decide) (by exact ⟨by omega, by omega⟩) (by exact ⟨by omega, by omega⟩) (fun c_130 => ?_) (fun c_130 => ?_)
        · refine wa_iconst dX12_goesRound_138 ?_
          refine wa_istore_n dX12_goesRound_139 (by decide) ?_
          refine wa_iconst dX12_goesRound_140 ?_
          refine wa_istore dX12_goesRound_141 (by decide) ?_
          exact go
        · omega
      · omega
    · refine wa_iconst dX12_goesRound_106 ?_
      refine wa_istore_n dX12_goesRound_107 (by decide) ?_
      refine wa_aload_n dX12_goesRound_108 rfl ?_
      refine wt_getR dX12_goesRound_109 FX12_19 (by assumption) (by assumption) ?_
      refine wa_iconst dX12_goesRound_112 ?_
      refine wt_iald 0 dX12_goesRound_113 (by assumption) rfl (by omega) ?_
      try first | rw [e0] | skip
      refine wa_iconst dX12_goesRound_114 ?_
      refine wa_icmp_ne 123 dX12_goesRound_115 (by decide) (by exact ⟨by omega, by omega⟩) (by exact ⟨by omega, by omega⟩) (fun c_115 => ?_) (fun c_115 => ?_)
      · refine wa_aload_n dX12_goesRound_123 rfl ?_
        refine wt_getR dX12_goesRound_124 FX12_19 (by assumption) (by assumption) ?_
        refine wa_iconst dX12_goesRound_127 ?_
        refine wt_iald 0 dX12_goesRound_128 (by assumption) rfl (by omega) ?_
        try first | rw [e0] | skip
        refine wa_iconst dX12_goesRound_129 ?_
        refine wa_icmp_ne 138 dX12_goesRound_130 (by decide) (by exact ⟨by omega, by omega⟩) (by exact ⟨by omega, by omega⟩) (fun c_130 => ?_) (fun c_130 => ?_)
        · omega
        · refine wa_bipush dX12_goesRound_133 rfl ?_
          refine wa_goto 139 dX12_goesRound_135 (by decide) ?_
          refine wa_istore_n dX12_goesRound_139 (by decide) ?_
          refine wa_iconst dX12_goesRound_140 ?_
          refine wa_istore dX12_goesRound_141 (by decide) ?_
          exact go
      · omega
  have p24 : ∀ K J : Nat → Nat → Int, (∀ a, a ≠ 182 → a ≠ 183 → a ≠ 184 → a ≠ 185 → K a = I a) → (∀ x, x < 2604 → plM K x = plT A.1.1 x) → (∀ c, c < A.1.1.1 → A.1.1.2.2.2.2.2 c = (c : Int) → K 185 c = lsX A.1.1 c) → (∀ a, a ≠ 173 → J a = K a) → (∀ x, x < 5 → J 173 x = 0) → tmW kX12_goesRound 8 0 0 24 [some (tR 168), some (tI (5 : Nat)), none, none, none, none] [] (S, J, L) (GrPost S I L (rndX A)) := fun K J f1 f2 f3 j1 j2 => by
    have hn : J 169 1 = (A.1.2.length : Int) := by rw [j1 169 (by decide), f1 169 (by decide) (by decide) (by decide) (by decide)]; exact h.1.2.1
    have gf := gr_find (I := I) (L := L) hL hX h6 hok ht h.1.1 h.1.2 q1 hl9 none none (GrPost S I L (rndX A)) A.1.2.length 0 J none (by omega) ⟨fun a a1 a2 a3 a4 a5 _ _ _ _ => by rw [j1 a a1]; exact f1 a a2 a3 a4 a5, fun x hx => by
      rw [plM_cg (j1 182 (by decide)) (j1 183 (by decide)) (j1 184 (by decide))]
      exact f2 x hx, fun c hc hc2 => by rw [j1 185 (by decide)]; exact f3 c hc hc2, fun x hx => by omega, fun y hy => by
      rw [j2 y hy]
      split <;> rfl⟩ (fun J' a3' hJ' => p106 J' _ a3' hJ')
    refine wa_aload_n dX12_goesRound_24 rfl ?_
    refine wt_getR dX12_goesRound_25 FX12_7 (by assumption) (by assumption) ?_
    refine wa_iconst dX12_goesRound_28 ?_
    refine wt_iald 1 dX12_goesRound_29 (by assumption) rfl (by omega) ?_
    try first | rw [hn] | skip
    refine wa_istore_n dX12_goesRound_30 (by decide) ?_
    refine wa_iconst dX12_goesRound_31 ?_
    refine wa_istore_n dX12_goesRound_32 (by decide) ?_
    exact gf
  have p4 : ∀ K : Nat → Nat → Int, (∀ a, a ≠ 182 → a ≠ 183 → a ≠ 184 → a ≠ 185 → K a = I a) → (∀ x, x < 2604 → plM K x = plT A.1.1 x) → (∀ c, c < A.1.1.1 → A.1.1.2.2.2.2.2 c = (c : Int) → K 185 c = lsX A.1.1 c) → tmW kX12_goesRound 8 0 0 4 [some (tR 168), none, none, none, none, none] [] (S, K, L) (GrPost S I L (rndX A)) := fun K f1 f2 f3 => by
    have gz := gr_zero (I := K) (L := L) hL (GrPost S I L (rndX A)) none none none none (fun J j1 j2 => p24 K J f1 f2 f3 j1 j2) 5 0 K (by omega) (fun _ _ => rfl) (fun x hx => by omega)
    refine wa_iconst dX12_goesRound_4 ?_
    refine wa_istore_n dX12_goesRound_5 (by decide) ?_
    exact gz
  refine wa_aload_n dX12_goesRound_0 rfl ?_
  refine wa_callV (ci := 12) dX12_goesRound_1 KX12_table LX12_160 ⟨_, _, rfl, by decide⟩ o168 (kt) (by decide) rfl (Nat.le_of_ble_eq_true rfl) rfl rfl (fun r h' hq => ?_)
  obtain ⟨rfl, K, rfl, f1, f2, f3⟩ := hq
  exact p4 K f1 f2 f3
end S99y
