/-! ===== 99zk: the reference: digest ===== -/
set_option maxRecDepth 20000 in
theorem i64_bc : ∀ m, m < 8 → i64 ((m % 2 : Nat) : Int) + (i64 ((m / 2 % 2 : Nat) : Int) + i64 ((m / 4 : Nat) : Int)) = i64 (bcN m) := by decide
set_option maxRecDepth 20000 in
theorem spRule_r {A : AS} {r : Nat} (hr : r < A.1.2.length) {w : Int} (hw : 0 ≤ w ∧ w ≤ 4) : (spRule A (r : Int) w).1 = ruleX A r w := by
  unfold spRule
  rw [if_pos ⟨⟨by omega, by omega⟩, hw⟩]
  rfl
section S99zk
variable {S : tmS} {I : Nat → Nat → Int} {L : Nat → Nat → Int64}
set_option maxRecDepth 20000 in
theorem mdg_1 {m : Nat} {A : AS} (hL : LX S) (ha : AOK m A) (h : MR I A) (Q : Option tmV → tmH → Prop) : ∀ (k w : Nat) (g : Int64), w + k = 9 →
    tmW kX12_digest 5 0 0 31 [some (tR 168), some (tL (dgT A k w g)), none, some (tI (9 : Nat)), none] [] (S, I, L) Q →
    tmW kX12_digest 5 0 0 6 [some (tR 168), some (tL g), none, some (tI w), none] [] (S, I, L) Q := by
  intro k
  have o168 := oX168 hL
  have r168_0 := rX168_0 hL
  have r168_1 := rX168_1 hL
  have r168_3 := rX168_3 hL
  have r168_4 := rX168_4 hL
  have r168_5 := rX168_5 hL
  have r168_6 := rX168_6 hL
  have r168_7 := rX168_7 hL
  have r168_8 := rX168_8 hL
  have r168_11 := rX168_11 hL
  have r168_13 := rX168_13 hL
  have r168_17 := rX168_17 hL
  have r168_18 := rX168_18 hL
  have r168_19 := rX168_19 hL
  have r168_21 := rX168_21 hL
  have r168_22 := rX168_22 hL
  have r168_23 := rX168_23 hL
  have r168_24 := rX168_24 hL
  have r168_25 := rX168_25 hL
  have r168_26 := rX168_26 hL
  have r168_27 := rX168_27 hL
  have r168_28 := rX168_28 hL
  have r168_29 := rX168_29 hL
  have r168_30 := rX168_30 hL
  induction k with
  | zero =>
    intro w g hw kk
    obtain rfl : w = 9 := by omega
    refine wa_iload_n dX12_digest_6 rfl ?_
    refine wa_bipush dX12_digest_7 rfl ?_
    refine wa_icmp_ge 31 dX12_digest_9 (by decide) (by exact ⟨by omega, by omega⟩) (by exact ⟨by omega, by omega⟩) (fun c_9 => ?_) (fun c_9 => ?_)
    · exact kk
    · omega
  | succ k ih =>
    intro w g hw kk
    have hc := c_mtoldOf (L := L) hL ha h w (by omega)
    have nx := ih (w + 1) (hs1 g (spTold A (w : Int)).1) (by omega) kk
    refine wa_iload_n dX12_digest_6 rfl ?_
    refine wa_bipush dX12_digest_7 rfl ?_
    refine wa_icmp_ge 31 dX12_digest_9 (by decide) (by exact ⟨by omega, by omega⟩) (by exact ⟨by omega, by omega⟩) (fun c_9 => ?_) (fun c_9 => ?_)
    · omega
    · refine wa_ldc2 dX12_digest_12 QX12_241 ?_
      refine wa_lload_n dX12_digest_15 rfl ?_
      refine wa_lmul dX12_digest_16 ?_
      refine wa_aload_n dX12_digest_17 rfl ?_
      refine wa_iload_n dX12_digest_18 rfl ?_
      refine wa_callVf (ci := 12) dX12_digest_19 KX12_toldOf LX12_236 ⟨_, _, rfl, by decide⟩ o168 (hc) (by decide) rfl rfl (Nat.le_of_ble_eq_true rfl) rfl rfl ?_
      refine wa_i2l dX12_digest_22 rfl ?_
      refine wa_ladd dX12_digest_23 ?_
      refine wa_lstore_n dX12_digest_24 (by decide) ?_
      refine wa_iinc dX12_digest_25 rfl (by decide) ?_
      refine wa_goto 6 dX12_digest_28 (by decide) ?_
      exact nx
set_option maxRecDepth 20000 in
theorem mdg_2 {m : Nat} {A : AS} (hL : LX S) (ha : AOK m A) (h : MR I A) {t : Nat} (ht : t < A.1.1.1) (Q : Option tmV → tmH → Prop) : ∀ (k w : Nat) (g : Int64), w + k = 5 →
    tmW kX12_digest 5 0 0 80 [some (tR 168), some (tL (dgO A t k w g)), none, some (tI t), some (tI (5 : Nat))] [] (S, I, L) Q →
    tmW kX12_digest 5 0 0 46 [some (tR 168), some (tL g), none, some (tI t), some (tI w)] [] (S, I, L) Q := by
  intro k
  have o168 := oX168 hL
  have r168_0 := rX168_0 hL
  have r168_1 := rX168_1 hL
  have r168_3 := rX168_3 hL
  have r168_4 := rX168_4 hL
  have r168_5 := rX168_5 hL
  have r168_6 := rX168_6 hL
  have r168_7 := rX168_7 hL
  have r168_8 := rX168_8 hL
  have r168_11 := rX168_11 hL
  have r168_13 := rX168_13 hL
  have r168_17 := rX168_17 hL
  have r168_18 := rX168_18 hL
  have r168_19 := rX168_19 hL
  have r168_21 := rX168_21 hL
  have r168_22 := rX168_22 hL
  have r168_23 := rX168_23 hL
  have r168_24 := rX168_24 hL
  have r168_25 := rX168_25 hL
  have r168_26 := rX168_26 hL
  have r168_27 := rX168_27 hL
  have r168_28 := rX168_28 hL
  have r168_29 := rX168_29 hL
  have r168_30 := rX168_30 hL
  have o169 := oX169 hL
  have h50 := ha.1.1.1.1
  induction k with
  | zero =>
    intro w g hw kk
    obtain rfl : w = 5 := by omega
    refine wa_iload dX12_digest_46 rfl ?_
    refine wa_iconst dX12_digest_48 ?_
    refine wa_icmp_ge 80 dX12_digest_49 (by decide) (by exact ⟨by omega, by omega⟩) (by exact ⟨by omega, by omega⟩) (fun c_49 => ?_) (fun c_49 => ?_)
    · exact kk
    · omega
  | succ k ih =>
    intro w g hw kk
    have nx := ih (w + 1) (hs1 g (spOf A (t : Int) (w : Int)).1) (by omega) kk
    have ev : I 169 (2 + 50 * w + t) = (spOf A (t : Int) (w : Int)).1 := by
      unfold spOf
      rw [if_pos ⟨⟨by omega, by omega⟩, by omega, by omega⟩]
      obtain ⟨m1, m2, m3, m4, m5⟩ := h.mt.2 t ht
      rcases (by omega : w = 0 ∨ w = 1 ∨ w = 2 ∨ w = 3 ∨ w = 4) with rfl | rfl | rfl | rfl | rfl
      · exact m1
      · exact m2
      · exact m3
      · exact m4
      · exact m5
    refine wa_iload dX12_digest_46 rfl ?_
    refine wa_iconst dX12_digest_48 ?_
    refine wa_icmp_ge 80 dX12_digest_49 (by decide) (by exact ⟨by omega, by omega⟩) (by exact ⟨by omega, by omega⟩) (fun c_49 => ?_) (fun c_49 => ?_)
    · omega
    · refine wa_ldc2 dX12_digest_52 QX12_241 ?_
      refine wa_lload_n dX12_digest_55 rfl ?_
      refine wa_lmul dX12_digest_56 ?_
      refine wa_aload_n dX12_digest_57 rfl ?_
      refine wt_getR dX12_digest_58 FX12_7 (by assumption) (by assumption) ?_
      refine wa_iconst dX12_digest_61 ?_
      refine wa_bipush dX12_digest_62 rfl ?_
      refine wa_iload dX12_digest_64 rfl ?_
      refine wa_imul dX12_digest_66 ?_
      refine wa_iadd dX12_digest_67 ?_
      refine wa_iload_n dX12_digest_68 rfl ?_
      refine wa_iadd dX12_digest_69 ?_
      refine wt_iald (2 + 50 * w + t) dX12_digest_70 (by assumption) (by omega) (by omega) ?_
      try first | rw [ev] | skip
      refine wa_i2l dX12_digest_71 rfl ?_
      refine wa_ladd dX12_digest_72 ?_
      refine wa_lstore_n dX12_digest_73 (by decide) ?_
      refine wa_iinc dX12_digest_74 rfl (by decide) ?_
      refine wa_goto 46 dX12_digest_77 (by decide) ?_
      exact nx
set_option maxRecDepth 20000 in
theorem mdg_3 {m : Nat} {A : AS} (hL : LX S) (ha : AOK m A) (h : MR I A) (Q : Option tmV → tmH → Prop) : ∀ (k t : Nat) (g : Int64) (x : Option tmV), t + k = A.1.1.1 →
    (∀ x, tmW kX12_digest 5 0 0 86 [some (tR 168), some (tL (dgOs A k t g)), none, some (tI A.1.1.1), x] [] (S, I, L) Q) →
    tmW kX12_digest 5 0 0 33 [some (tR 168), some (tL g), none, some (tI t), x] [] (S, I, L) Q := by
  intro k
  have o168 := oX168 hL
  have r168_0 := rX168_0 hL
  have r168_1 := rX168_1 hL
  have r168_3 := rX168_3 hL
  have r168_4 := rX168_4 hL
  have r168_5 := rX168_5 hL
  have r168_6 := rX168_6 hL
  have r168_7 := rX168_7 hL
  have r168_8 := rX168_8 hL
  have r168_11 := rX168_11 hL
  have r168_13 := rX168_13 hL
  have r168_17 := rX168_17 hL
  have r168_18 := rX168_18 hL
  have r168_19 := rX168_19 hL
  have r168_21 := rX168_21 hL
  have r168_22 := rX168_22 hL
  have r168_23 := rX168_23 hL
  have r168_24 := rX168_24 hL
  have r168_25 := rX168_25 hL
  have r168_26 := rX168_26 hL
  have r168_27 := rX168_27 hL
  have r168_28 := rX168_28 hL
  have r168_29 := rX168_29 hL
  have r168_30 := rX168_30 hL
  have o169 := oX169 hL
  have h50 := ha.1.1.1.1
  have hn := h.mt.1
  induction k with
  | zero =>
    intro t g x ht kk
    obtain rfl : t = A.1.1.1 := by omega
    have := kk x
    refine wa_iload_n dX12_digest_33 rfl ?_
    refine wa_aload_n dX12_digest_34 rfl ?_
    refine wt_getR dX12_digest_35 FX12_7 (by assumption) (by assumption) ?_
    refine wa_iconst dX12_digest_38 ?_
    refine wt_iald 0 dX12_digest_39 (by assumption) rfl (by omega) ?_
    try first | rw [hn] | skip
    refine wa_icmp_ge 86 dX12_digest_40 (by decide) (by exact ⟨by omega, by omega⟩) (by exact ⟨by omega, by omega⟩) (fun c_40 => ?_) (fun c_40 => ?_)
    · exact this
    · omega
  | succ k ih =>
    intro t g x ht kk
    have nx := mdg_2 (I := I) (L := L) hL ha h (t := t) (by omega) Q 5 0 g (by omega) (by
      have hi := ih (t + 1) (dgO A t 5 0 g) (some (tI (5 : Nat))) (by omega) kk
      refine wa_iinc dX12_digest_80 rfl (by decide) ?_
      refine wa_goto 33 dX12_digest_83 (by decide) ?_
      exact hi
      )
    refine wa_iload_n dX12_digest_33 rfl ?_
    refine wa_aload_n dX12_digest_34 rfl ?_
    refine wt_getR dX12_digest_35 FX12_7 (by assumption) (by assumption) ?_
    refine wa_iconst dX12_digest_38 ?_
    refine wt_iald 0 dX12_digest_39 (by assumption) rfl (by omega) ?_
    try first | rw [hn] | skip
    refine wa_icmp_ge 86 dX12_digest_40 (by decide) (by exact ⟨by omega, by omega⟩) (by exact ⟨by omega, by omega⟩) (fun c_40 => ?_) (fun c_40 => ?_)
    · omega
    · refine wa_iconst dX12_digest_43 ?_
      refine wa_istore dX12_digest_44 (by decide) ?_
      exact nx
-- behind table: what each RULE gives
set_option maxRecDepth 20000 in
theorem mdg_4 {m : Nat} {A : AS} (hL : LX S) (ha : AOK m A) (h : MR I A) (ht : RlT A.1.2) : ∀ (k r : Nat) (g : Int64) (x : Option tmV) (J : Nat → Nat → Int), r + k = A.1.2.length → ScF I J → (∀ K, K < 2604 → plM J K = plT A.1.1 K) → (∀ c, c < A.1.1.1 → A.1.1.2.2.2.2.2 c = (c : Int) → J 185 c = lsX A.1.1 c) →
    tmW kX12_digest 5 0 0 110 [some (tR 168), some (tL g), none, some (tI r), x] [] (S, J, L) (fun q h' => q = some (tL (dgRs A k r g)) ∧ ∃ I', h' = (S, I', L) ∧ MR I' A ∧ CFr I I') := by
  intro k
  have o168 := oX168 hL
  have r168_0 := rX168_0 hL
  have r168_1 := rX168_1 hL
  have r168_3 := rX168_3 hL
  have r168_4 := rX168_4 hL
  have r168_5 := rX168_5 hL
  have r168_6 := rX168_6 hL
  have r168_7 := rX168_7 hL
  have r168_8 := rX168_8 hL
  have r168_11 := rX168_11 hL
  have r168_13 := rX168_13 hL
  have r168_17 := rX168_17 hL
  have r168_18 := rX168_18 hL
  have r168_19 := rX168_19 hL
  have r168_21 := rX168_21 hL
  have r168_22 := rX168_22 hL
  have r168_23 := rX168_23 hL
  have r168_24 := rX168_24 hL
  have r168_25 := rX168_25 hL
  have r168_26 := rX168_26 hL
  have r168_27 := rX168_27 hL
  have r168_28 := rX168_28 hL
  have r168_29 := rX168_29 hL
  have r168_30 := rX168_30 hL
  have o169 := oX169 hL
  have o187 := oX187 hL
  have h6 := ha.1.2.1
  induction k with
  | zero =>
    intro r g x J hr f1 f2 f3
    obtain rfl : r = A.1.2.length := by omega
    have hn : J 169 1 = (A.1.2.length : Int) := by rw [f1 169 (by omega)]; exact h.1.2.1
    refine wa_iload_n dX12_digest_110 rfl ?_
    refine wa_aload_n dX12_digest_111 rfl ?_
    refine wt_getR dX12_digest_112 FX12_7 (by assumption) (by assumption) ?_
    refine wa_iconst dX12_digest_115 ?_
    refine wt_iald 1 dX12_digest_116 (by assumption) rfl (by omega) ?_
    try first | rw [hn] | skip
    refine wa_icmp_ge 206 dX12_digest_117 (by decide) (by exact ⟨by omega, by omega⟩) (by exact ⟨by omega, by omega⟩) (fun c_117 => ?_) (fun c_117 => ?_)
    · refine wa_lload_n dX12_digest_206 rfl ?_
      refine wa_lreturn dX12_digest_207 rfl ?_
      exact ⟨rfl, J, rfl, h.sc f1, f1.cf⟩
    · omega
  | succ k ih =>
    intro r g x J hr f1 f2 f3
    have hrl : r < A.1.2.length := by omega
    have hn : J 169 1 = (A.1.2.length : Int) := by rw [f1 169 (by omega)]; exact h.1.2.1
    have e9 : J 169 = I 169 := f1 169 (by omega)
    have mw := h.1.2.mw ha.1.2.1 ha.1.2.2 hrl
    have kf := c_mfinds (I := J) (L := L) hL ha.1.1 (r := r) (wl := rlL A.1.2 r) (wr := rlR A.1.2 r) (by unfold MT; rw [e9]; exact h.1.1) (mw.row e9) (ht.at hrl).1 f2 f3
    have p125 : ∀ K : Nat → Nat → Int, FS J K r (fnd6 A.1.1 (rlL A.1.2 r) r) → tmW kX12_digest 5 0 0 125 [some (tR 168), some (tL g), none, some (tI r), x] [] (S, K, L) (fun q h' => q = some (tL (dgRs A (k + 1) r g)) ∧ ∃ I', h' = (S, I', L) ∧ MR I' A ∧ CFr I I') := fun K hK => by
      obtain ⟨k1, k2, k3, k4⟩ := hK
      have g1 : ScF I K := fun a ha' => by rw [k1 a (by omega) (by omega) (by omega) (by omega)]; exact f1 a ha'
      have eK : K 169 = I 169 := g1 169 (by omega)
      have mwK : MW K r (rlL A.1.2 r) (rlR A.1.2 r) := mw.row eK
      have kl := c_mletters (I := K) (L := L) hL mwK
      have ks1 := c_msigns (I := K) (L := L) hL (Or.inr rfl) (c_msizeL hL mwK) (fun k hk => c_msignL hL mwK hk) mwK.2.2.2.2.2.2.1 (by have := mwK.2.1; omega)
      have ks2 := c_msigns (I := K) (L := L) hL (Or.inl rfl) (c_msizeR hL mwK) (fun k hk => c_msignR hL mwK hk) mwK.2.2.2.2.2.2.2 (by have := mwK.2.1; omega)
      have hlet : letW (rlL A.1.2 r) < 8 := letF_lt _ 0 (fun s hs => (mwK.2.2.2.2.2.2.1 s hs).2) (by decide)
      have em : K 187 r = ((fnd6 A.1.1 (rlL A.1.2 r) r).length : Int) := k4.1
      have nx := ih (r + 1) (dgR A r 4 0 g) (some (tI (letW (rlL A.1.2 r) : Nat))) K (by omega) g1 (fun x hx => by
        rw [plM_cg (k1 182 (by decide) (by decide) (by decide) (by decide)) (k1 183 (by decide) (by decide) (by decide) (by decide)) (k1 184 (by decide) (by decide) (by decide) (by decide))]
        exact f2 x hx) (fun c hc hc2 => by rw [k1 185 (by decide) (by decide) (by decide) (by decide)]; exact f3 c hc hc2)
      have eg : dgR A r 4 0 g = 31 * (31 * (31 * (31 * g + i64 ((letW (rlL A.1.2 r) % 2 : Nat) : Int) + i64 ((letW (rlL A.1.2 r) / 2 % 2 : Nat) : Int) + i64 ((letW (rlL A.1.2 r) / 4 : Nat) : Int)) + i64 (((rlL A.1.2 r).countP (fun s => decide (s < 7)) : Nat) : Int)) + i64 (((rlR A.1.2 r).countP (fun s => decide (s < 7)) : Nat) : Int)) + i64 ((fnd6 A.1.1 (rlL A.1.2 r) r).length : Int) := by
        simp only [dgR, hs1]
        rw [spRule_r hrl (by decide), spRule_r hrl (by decide), spRule_r hrl (by decide), spRule_r hrl (by decide)]
        have e0 : ruleX A r ((0 : Nat) : Int) = bcN (letW (rlL A.1.2 r)) := rfl
        have e1 : ruleX A r ((0 + 1 : Nat) : Int) = (((rlL A.1.2 r).countP (fun s => decide (s < 7)) : Nat) : Int) := rfl
        have e2 : ruleX A r ((0 + 1 + 1 : Nat) : Int) = (((rlR A.1.2 r).countP (fun s => decide (s < 7)) : Nat) : Int) := rfl
        have e3 : ruleX A r ((0 + 1 + 1 + 1 : Nat) : Int) = ((fnd6 A.1.1 (rlL A.1.2 r) r).length : Int) := rfl
        rw [e0, e1, e2, e3, ← i64_bc _ hlet, ← Int64.add_assoc, ← Int64.add_assoc]
      have ed : dgRs A (k + 1) r g = dgRs A k (r + 1) (dgR A r 4 0 g) := rfl
      rw [ed]
      rw [eg] at nx ⊢
      generalize letW (rlL A.1.2 r) = M at *
      refine wa_aload_n dX12_digest_125 rfl ?_
      refine wa_iload_n dX12_digest_126 rfl ?_
      refine wa_callVf (ci := 12) dX12_digest_127 KX12_lettersOf LX12_144 ⟨_, _, rfl, by decide⟩ o168 (kl) (by decide) rfl rfl (Nat.le_of_ble_eq_true rfl) rfl rfl ?_
      refine wa_istore dX12_digest_130 (by decide) ?_
      refine wa_ldc2 dX12_digest_132 QX12_241 ?_
      refine wa_lload_n dX12_digest_135 rfl ?_
      refine wa_lmul dX12_digest_136 ?_
      refine wa_iload dX12_digest_137 rfl ?_
      refine wa_iconst dX12_digest_139 ?_
      refine wa_iand dX12_digest_140 (r := ((M % 2 : Nat) : Int)) (lt_a M hlet) ?_
      refine wa_i2l dX12_digest_141 rfl ?_
      refine wa_ladd dX12_digest_142 ?_
      refine wa_iload dX12_digest_143 rfl ?_
      refine wa_iconst dX12_digest_145 ?_
      refine wa_ishr dX12_digest_146 (r := ((M / 2 : Nat) : Int)) (lt_s1 M hlet) ?_
      refine wa_iconst dX12_digest_147 ?_
      refine wa_iand dX12_digest_148 (r := ((M / 2 % 2 : Nat) : Int)) (lt_a1 M hlet) ?_
      refine wa_i2l dX12_digest_149 rfl ?_
      refine wa_ladd dX12_digest_150 ?_
      refine wa_iload dX12_digest_151 rfl ?_
      refine wa_iconst dX12_digest_153 ?_
      refine wa_ishr dX12_digest_154 (r := ((M / 4 : Nat) : Int)) (lt_s2 M hlet) ?_
      refine wa_i2l dX12_digest_155 rfl ?_
      refine wa_ladd dX12_digest_156 ?_
      refine wa_lstore_n dX12_digest_157 (by decide) ?_
      refine wa_ldc2 dX12_digest_158 QX12_241 ?_
      refine wa_lload_n dX12_digest_161 rfl ?_
      refine wa_lmul dX12_digest_162 ?_
      refine wa_aload_n dX12_digest_163 rfl ?_
      refine wa_iload_n dX12_digest_164 rfl ?_
      refine wa_iconst dX12_digest_165 ?_
      refine wa_callVf (ci := 12) dX12_digest_166 KX12_signsOf LX12_157 ⟨_, _, rfl, by decide⟩ o168 (ks1) (by decide) rfl rfl (Nat.le_of_ble_eq_true rfl) rfl rfl ?_
      refine wa_i2l dX12_digest_169 rfl ?_
      refine wa_ladd dX12_digest_170 ?_
      refine wa_lstore_n dX12_digest_171 (by decide) ?_
      refine wa_ldc2 dX12_digest_172 QX12_241 ?_
      refine wa_lload_n dX12_digest_175 rfl ?_
      refine wa_lmul dX12_digest_176 ?_
      refine wa_aload_n dX12_digest_177 rfl ?_
      refine wa_iload_n dX12_digest_178 rfl ?_
      refine wa_iconst dX12_digest_179 ?_
      refine wa_callVf (ci := 12) dX12_digest_180 KX12_signsOf LX12_157 ⟨_, _, rfl, by decide⟩ o168 (ks2) (by decide) rfl rfl (Nat.le_of_ble_eq_true rfl) rfl rfl ?_
      refine wa_i2l dX12_digest_183 rfl ?_
      refine wa_ladd dX12_digest_184 ?_
      refine wa_lstore_n dX12_digest_185 (by decide) ?_
      refine wa_ldc2 dX12_digest_186 QX12_241 ?_
      refine wa_lload_n dX12_digest_189 rfl ?_
      refine wa_lmul dX12_digest_190 ?_
      refine wa_aload_n dX12_digest_191 rfl ?_
      refine wt_getR dX12_digest_192 FX12_64 (by assumption) (by assumption) ?_
      refine wa_iload_n dX12_digest_195 rfl ?_
      refine wt_iald r dX12_digest_196 (by assumption) rfl (by omega) ?_
      try first | rw [em] | skip
      refine wa_i2l dX12_digest_197 rfl ?_
      refine wa_ladd dX12_digest_198 ?_
      refine wa_lstore_n dX12_digest_199 (by decide) ?_
      refine wa_iinc dX12_digest_200 rfl (by decide) ?_
      refine wa_goto 110 dX12_digest_203 (by decide) ?_
      exact nx
    refine wa_iload_n dX12_digest_110 rfl ?_
    refine wa_aload_n dX12_digest_111 rfl ?_
    refine wt_getR dX12_digest_112 FX12_7 (by assumption) (by assumption) ?_
    refine wa_iconst dX12_digest_115 ?_
    refine wt_iald 1 dX12_digest_116 (by assumption) rfl (by omega) ?_
    try first | rw [hn] | skip
    refine wa_icmp_ge 206 dX12_digest_117 (by decide) (by exact ⟨by omega, by omega⟩) (by exact ⟨by omega, by omega⟩) (fun c_117 => ?_) (fun c_117 => ?_)
    · omega
    · refine wa_aload_n dX12_digest_120 rfl ?_
      refine wa_iload_n dX12_digest_121 rfl ?_
      refine wa_callV (ci := 12) dX12_digest_122 KX12_finds LX12_163 ⟨_, _, rfl, by decide⟩ o168 (kf) (by decide) rfl (Nat.le_of_ble_eq_true rfl) rfl rfl (fun r h' hq => ?_)
      obtain ⟨rfl, K, rfl, hK⟩ := hq
      exact p125 K hK
set_option maxRecDepth 20000 in
theorem c_mdigest {m : Nat} {A : AS} (hL : LX S) (ha : AOK m A) (h : MR I A) (ht : RlT A.1.2) : tmC yX12_digest kX12_digest 5 0 0 [tR 168] (S, I, L) (fun q h' => q = some (tL (spDigest A)) ∧ ∃ I', h' = (S, I', L) ∧ MR I' A ∧ CFr I I') := by
  refine tmC.mk (lv := [some (tR 168), none, none, none, none]) 4 ⟨rfl, by decide +kernel, by decide⟩ rfl rfl ?_
  have o168 := oX168 hL
  have r168_0 := rX168_0 hL
  have r168_1 := rX168_1 hL
  have r168_3 := rX168_3 hL
  have r168_4 := rX168_4 hL
  have r168_5 := rX168_5 hL
  have r168_6 := rX168_6 hL
  have r168_7 := rX168_7 hL
  have r168_8 := rX168_8 hL
  have r168_11 := rX168_11 hL
  have r168_13 := rX168_13 hL
  have r168_17 := rX168_17 hL
  have r168_18 := rX168_18 hL
  have r168_19 := rX168_19 hL
  have r168_21 := rX168_21 hL
  have r168_22 := rX168_22 hL
  have r168_23 := rX168_23 hL
  have r168_24 := rX168_24 hL
  have r168_25 := rX168_25 hL
  have r168_26 := rX168_26 hL
  have r168_27 := rX168_27 hL
  have r168_28 := rX168_28 hL
  have r168_29 := rX168_29 hL
  have r168_30 := rX168_30 hL
  have o169 := oX169 hL
  have h50 := ha.1.1.1.1
  have hn := h.mt.1
  have kt := c_mtable (L := L) hL ha.1.1 h.1.1
  have kc := c_mnCls (I := I) (L := L) hL h.mt h50 (Nat.le_refl _)
  have l1 := mdg_1 (I := I) (L := L) hL ha h (fun q h' => q = some (tL (spDigest A)) ∧ ∃ I', h' = (S, I', L) ∧ MR I' A ∧ CFr I I') 9 0 2039 (by omega) (by
    have l3 := mdg_3 (I := I) (L := L) hL ha h (fun q h' => q = some (tL (spDigest A)) ∧ ∃ I', h' = (S, I', L) ∧ MR I' A ∧ CFr I I') A.1.1.1 0 (dgT A 9 0 2039) none (by omega) (fun x => by
      have p108 : ∀ J : Nat → Nat → Int, (∀ a, a ≠ 182 → a ≠ 183 → a ≠ 184 → a ≠ 185 → J a = I a) → (∀ K, K < 2604 → plM J K = plT A.1.1 K) → (∀ c, c < A.1.1.1 → A.1.1.2.2.2.2.2 c = (c : Int) → J 185 c = lsX A.1.1 c) → tmW kX12_digest 5 0 0 108 [some (tR 168), some (tL (hs1 (dgOs A A.1.1.1 0 (dgT A 9 0 2039)) (spClasses A))), none, some (tI A.1.1.1), x] [] (S, J, L) (fun q h' => q = some (tL (spDigest A)) ∧ ∃ I', h' = (S, I', L) ∧ MR I' A ∧ CFr I I') := fun J f1 f2 f3 => by
        have l4 := mdg_4 (I := I) (L := L) hL ha h ht A.1.2.length 0 (hs1 (dgOs A A.1.1.1 0 (dgT A 9 0 2039)) (spClasses A)) x J (by omega) (fun a ha' => f1 a (by omega) (by omega) (by omega) (by omega)) f2 f3
        refine wa_iconst dX12_digest_108 ?_
        refine wa_istore_n dX12_digest_109 (by decide) ?_
        exact l4
      generalize dgOs A A.1.1.1 0 (dgT A 9 0 2039) = g at p108 ⊢
      refine wa_ldc2 dX12_digest_86 QX12_241 ?_
      refine wa_lload_n dX12_digest_89 rfl ?_
      refine wa_lmul dX12_digest_90 ?_
      refine wa_aload_n dX12_digest_91 rfl ?_
      refine wa_aload_n dX12_digest_92 rfl ?_
      refine wt_getR dX12_digest_93 FX12_7 (by assumption) (by assumption) ?_
      refine wa_iconst dX12_digest_96 ?_
      refine wt_iald 0 dX12_digest_97 (by assumption) rfl (by omega) ?_
      try first | rw [hn] | skip
      refine wa_callVf (ci := 12) dX12_digest_98 KX12_classesOf LX12_126 ⟨_, _, rfl, by decide⟩ o168 (kc) (by decide) rfl rfl (Nat.le_of_ble_eq_true rfl) rfl rfl ?_
      refine wa_i2l dX12_digest_101 rfl ?_
      refine wa_ladd dX12_digest_102 ?_
      refine wa_lstore_n dX12_digest_103 (by decide) ?_
      refine wa_aload_n dX12_digest_104 rfl ?_
      refine wa_callV (ci := 12) dX12_digest_105 KX12_table LX12_160 ⟨_, _, rfl, by decide⟩ o168 (kt) (by decide) rfl (Nat.le_of_ble_eq_true rfl) rfl rfl (fun r h' hq => ?_)
      obtain ⟨rfl, J, rfl, f1, f2, f3⟩ := hq
      exact p108 J f1 f2 f3
      )
    refine wa_iconst dX12_digest_31 ?_
    refine wa_istore_n dX12_digest_32 (by decide) ?_
    exact l3
    )
  refine wa_ldc2 dX12_digest_0 QX12_239 ?_
  refine wa_lstore_n dX12_digest_3 (by decide) ?_
  refine wa_iconst dX12_digest_4 ?_
  refine wa_istore_n dX12_digest_5 (by decide) ?_
  exact l1
end S99zk
