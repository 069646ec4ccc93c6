/-! ===== 93: TriggerMatches: digest ===== -/
abbrev i64 (v : Int) : Int64 := (Int32.ofInt v).toInt64
def hs1 (h : Int64) (v : Int) : Int64 := 31 * h + i64 v
def dgT (A : AS) : Nat → Nat → Int64 → Int64
  | 0, _, h => h
  | k + 1, w, h => dgT A k (w + 1) (hs1 h (spTold A (w : Int)).1)
def dgO (A : AS) (t : Nat) : Nat → Nat → Int64 → Int64
  | 0, _, h => h
  | k + 1, w, h => dgO A t k (w + 1) (hs1 h (spOf A (t : Int) (w : Int)).1)
def dgOs (A : AS) : Nat → Nat → Int64 → Int64
  | 0, _, h => h
  | k + 1, t, h => dgOs A k (t + 1) (dgO A t 5 0 h)
def dgR (A : AS) (r : Nat) : Nat → Nat → Int64 → Int64
  | 0, _, h => h
  | k + 1, w, h => dgR A r k (w + 1) (hs1 h (spRule A (r : Int) (w : Int)).1)
def dgRs (A : AS) : Nat → Nat → Int64 → Int64
  | 0, _, h => h
  | k + 1, r, h => dgRs A k (r + 1) (dgR A r 4 0 h)
def spDigest (A : AS) : Int64 := dgRs A A.1.2.length 0 (hs1 (dgOs A A.1.1.1 0 (dgT A 9 0 2039)) (spClasses A))
section S93
variable {S : tmS} {I : Nat → Nat → Int} {L : Nat → Nat → Int64}
theorem spTold_st {A : AS} {w : Int} (h : 0 ≤ w ∧ w ≤ 8) : (spTold A w).2 = A := by unfold spTold; rw [if_pos h]
theorem spOf_st {A : AS} {t w : Int} (h : isT A t ∧ 0 ≤ w ∧ w ≤ 4) : (spOf A t w).2 = A := by unfold spOf; rw [if_pos h]
theorem spRule_st {A : AS} {t w : Int} (h : isR A t ∧ 0 ≤ w ∧ w ≤ 4) : (spRule A t w).2 = A := by unfold spRule; rw [if_pos h]
theorem CR.dn {m m' : Nat} {A : AS} (h : CR S I L m' A) (hr : ∀ j, j < 3 → A.2.2.2.1 j ≤ m) : CR S I L m A := by
  obtain ⟨c1, c2, c3, c4, k1, k2, k3, k4⟩ := h
  exact ⟨c1, c2, c3, c4, k1, k2, fun j hj => ⟨(k3 j hj).1, (k3 j hj).2.1, hr j hj⟩, k4⟩
set_option maxRecDepth 20000 in
theorem dg_l1 {m : Nat} {A : AS} (hm : m ≤ 1000) (hrf : ∀ j, j < 3 → A.2.2.2.1 j ≤ m) (S0 : tmS) (I0 : Nat → Nat → Int) (Q : Option tmV → tmH → Prop) : ∀ (k w : Nat) (g : Int64) (S : tmS) (I : Nat → Nat → Int) (L : Nat → Nat → Int64), w + k = 9 → CR S I L m A → MFr S0 I0 S I →
    (∀ (S : tmS) (I : Nat → Nat → Int) (L : Nat → Nat → Int64), CR S I L m A → MFr S0 I0 S I → tmW kX11_digest 10 0 0 31 [some (tR 0), some (tL (dgT A k w g)), none, some (tI (9 : Nat)), none] [] (S, I, L) Q) →
    tmW kX11_digest 10 0 0 6 [some (tR 0), some (tL g), none, some (tI w), none] [] (S, I, L) Q := by
  intro k
  induction k with
  | zero =>
    intro w g S I L hw h hf kk
    obtain rfl : w = 9 := by omega
    have := kk S I L h hf
    refine wa_iload_n dX11_digest_6 rfl ?_
    refine wa_bipush dX11_digest_7 rfl ?_
    refine wa_icmp_gt 31 dX11_digest_9 (by decide) (by exact ⟨by omega, by omega⟩) (by exact ⟨by omega, by omega⟩) (fun c_9 => ?_) (fun c_9 => ?_)
    · exact this
    · omega
  | succ k ih =>
    intro w g S I L hw h hf kk
    have hL := h.1
    have o0 := oX0 hL
    have r0_0 := rX0_0 hL
    have r0_1 := rX0_1 hL
    have r0_2 := rX0_2 hL
    have r0_3 := rX0_3 hL
    have r0_4 := rX0_4 hL
    have r0_5 := rX0_5 hL
    have r0_6 := rX0_6 hL
    have r0_7 := rX0_7 hL
    have r0_8 := rX0_8 hL
    have hc := c_told h hm (w : Int) ⟨by omega, by omega⟩
    rw [spTold_st ⟨by omega, by omega⟩] at hc
    refine wa_iload_n dX11_digest_6 rfl ?_
    refine wa_bipush dX11_digest_7 rfl ?_
    refine wa_icmp_gt 31 dX11_digest_9 (by decide) (by exact ⟨by omega, by omega⟩) (by exact ⟨by omega, by omega⟩) (fun c_9 => ?_) (fun c_9 => ?_)
    · omega
    · refine wa_ldc2 dX11_digest_12 QX11_245 ?_
      refine wa_lload_n dX11_digest_15 rfl ?_
      refine wa_lmul dX11_digest_16 ?_
      refine wa_aload_n dX11_digest_17 rfl ?_
      refine wa_iload_n dX11_digest_18 rfl ?_
      refine wa_callV (ci := 11) dX11_digest_19 KX11_told LX11_247 ⟨_, _, rfl, by decide⟩ o0 (hc) (by decide) rfl (Nat.le_of_ble_eq_true rfl) rfl rfl (fun r h' hq => ?_)
      obtain ⟨rfl, S', I', L', rfl, q1, q2⟩ := hq
      refine wa_i2l dX11_digest_22 rfl ?_
      refine wa_ladd dX11_digest_23 ?_
      refine wa_lstore_n dX11_digest_24 (by decide) ?_
      refine wa_iinc dX11_digest_25 rfl (by decide) ?_
      refine wa_goto 6 dX11_digest_28 (by decide) ?_
      exact ih (w + 1) _ S' I' L' (by omega) (q1.dn hrf) (hf.trans' q2) kk
set_option maxRecDepth 20000 in
theorem dg_l2 {m : Nat} {A : AS} (hm : m ≤ 1000) (hrf : ∀ j, j < 3 → A.2.2.2.1 j ≤ m) {t : Nat} (ht : t < A.1.1.1) (h50 : A.1.1.1 ≤ 50) (S0 : tmS) (I0 : Nat → Nat → Int) (Q : Option tmV → tmH → Prop) : ∀ (k w : Nat) (g : Int64) (S : tmS) (I : Nat → Nat → Int) (L : Nat → Nat → Int64), w + k = 5 → CR S I L m A → MFr S0 I0 S I →
    (∀ (S : tmS) (I : Nat → Nat → Int) (L : Nat → Nat → Int64), CR S I L m A → MFr S0 I0 S I → tmW kX11_digest 10 0 0 77 [some (tR 0), some (tL (dgO A t k w g)), none, some (tI t), some (tI (5 : Nat))] [] (S, I, L) Q) →
    tmW kX11_digest 10 0 0 50 [some (tR 0), some (tL g), none, some (tI t), some (tI w)] [] (S, I, L) Q := by
  intro k
  induction k with
  | zero =>
    intro w g S I L hw h hf kk
    obtain rfl : w = 5 := by omega
    have := kk S I L h hf
    refine wa_iload dX11_digest_50 rfl ?_
    refine wa_iconst dX11_digest_52 ?_
    refine wa_icmp_gt 77 dX11_digest_53 (by decide) (by exact ⟨by omega, by omega⟩) (by exact ⟨by omega, by omega⟩) (fun c_53 => ?_) (fun c_53 => ?_)
    · exact this
    · omega
  | succ k ih =>
    intro w g S I L hw h hf kk
    have hL := h.1
    have o0 := oX0 hL
    have r0_0 := rX0_0 hL
    have r0_1 := rX0_1 hL
    have r0_2 := rX0_2 hL
    have r0_3 := rX0_3 hL
    have r0_4 := rX0_4 hL
    have r0_5 := rX0_5 hL
    have r0_6 := rX0_6 hL
    have r0_7 := rX0_7 hL
    have r0_8 := rX0_8 hL
    have hc := c_of h hm (t : Int) (w : Int) ⟨by omega, by omega⟩ ⟨by omega, by omega⟩
    rw [spOf_st ⟨⟨by omega, by omega⟩, by omega, by omega⟩] at hc
    refine wa_iload dX11_digest_50 rfl ?_
    refine wa_iconst dX11_digest_52 ?_
    refine wa_icmp_gt 77 dX11_digest_53 (by decide) (by exact ⟨by omega, by omega⟩) (by exact ⟨by omega, by omega⟩) (fun c_53 => ?_) (fun c_53 => ?_)
    · omega
    · refine wa_ldc2 dX11_digest_56 QX11_245 ?_
      refine wa_lload_n dX11_digest_59 rfl ?_
      refine wa_lmul dX11_digest_60 ?_
      refine wa_aload_n dX11_digest_61 rfl ?_
      refine wa_iload_n dX11_digest_62 rfl ?_
      refine wa_iload dX11_digest_63 rfl ?_
      refine wa_callV (ci := 11) dX11_digest_65 KX11_of LX11_250 ⟨_, _, rfl, by decide⟩ o0 (hc) (by decide) rfl (Nat.le_of_ble_eq_true rfl) rfl rfl (fun r h' hq => ?_)
      obtain ⟨rfl, S', I', L', rfl, q1, q2⟩ := hq
      refine wa_i2l dX11_digest_68 rfl ?_
      refine wa_ladd dX11_digest_69 ?_
      refine wa_lstore_n dX11_digest_70 (by decide) ?_
      refine wa_iinc dX11_digest_71 rfl (by decide) ?_
      refine wa_goto 50 dX11_digest_74 (by decide) ?_
      exact ih (w + 1) _ S' I' L' (by omega) (q1.dn hrf) (hf.trans' q2) kk
set_option maxRecDepth 20000 in
theorem dg_l3 {m : Nat} {A : AS} (hm : m ≤ 1000) (hrf : ∀ j, j < 3 → A.2.2.2.1 j ≤ m) (h50 : A.1.1.1 ≤ 50) (S0 : tmS) (I0 : Nat → Nat → Int) (Q : Option tmV → tmH → Prop) : ∀ (k t : Nat) (g : Int64) (x : Option tmV) (S : tmS) (I : Nat → Nat → Int) (L : Nat → Nat → Int64), t + k = A.1.1.1 → CR S I L m A → MFr S0 I0 S I →
    (∀ (x : Option tmV) (S : tmS) (I : Nat → Nat → Int) (L : Nat → Nat → Int64), CR S I L m A → MFr S0 I0 S I → tmW kX11_digest 10 0 0 83 [some (tR 0), some (tL (dgOs A k t g)), none, some (tI A.1.1.1), x] [] (S, I, L) Q) →
    tmW kX11_digest 10 0 0 33 [some (tR 0), some (tL g), none, some (tI t), x] [] (S, I, L) Q := by
  intro k
  induction k with
  | zero =>
    intro t g x S I L ht h hf kk
    have hL := h.1
    have hn := h.2.1.1.1
    have o0 := oX0 hL
    have r0_0 := rX0_0 hL
    have r0_1 := rX0_1 hL
    have r0_2 := rX0_2 hL
    have r0_3 := rX0_3 hL
    have r0_4 := rX0_4 hL
    have r0_5 := rX0_5 hL
    have r0_6 := rX0_6 hL
    have r0_7 := rX0_7 hL
    have r0_8 := rX0_8 hL
    have o1 := oX1 hL
    have r1_0 := rX1_0 hL
    have r1_1 := rX1_1 hL
    have r1_3 := rX1_3 hL
    have o2 := oX2 hL
    have r2_1 := rX2_1 hL
    have r2_2 := rX2_2 hL
    have r2_3 := rX2_3 hL
    have r2_4 := rX2_4 hL
    have r2_5 := rX2_5 hL
    obtain rfl : t = A.1.1.1 := by omega
    have := kk x S I L h hf
    refine wa_iload_n dX11_digest_33 rfl ?_
    refine wa_aload_n dX11_digest_34 rfl ?_
    refine wt_getR dX11_digest_35 FX11_10 (by assumption) (by assumption) ?_
    refine wt_getR dX11_digest_38 FX11_32 (by assumption) (by assumption) ?_
    refine wt_getI dX11_digest_41 FX11_102 (by assumption) ?_
    try rw [hn]
    refine wa_icmp_ge 83 dX11_digest_44 (by decide) (by exact ⟨by omega, by omega⟩) (by exact ⟨by omega, by omega⟩) (fun c_44 => ?_) (fun c_44 => ?_)
    · exact this
    · omega
  | succ k ih =>
    intro t g x S I L ht h hf kk
    have hL := h.1
    have hn := h.2.1.1.1
    have o0 := oX0 hL
    have r0_0 := rX0_0 hL
    have r0_1 := rX0_1 hL
    have r0_2 := rX0_2 hL
    have r0_3 := rX0_3 hL
    have r0_4 := rX0_4 hL
    have r0_5 := rX0_5 hL
    have r0_6 := rX0_6 hL
    have r0_7 := rX0_7 hL
    have r0_8 := rX0_8 hL
    have o1 := oX1 hL
    have r1_0 := rX1_0 hL
    have r1_1 := rX1_1 hL
    have r1_3 := rX1_3 hL
    have o2 := oX2 hL
    have r2_1 := rX2_1 hL
    have r2_2 := rX2_2 hL
    have r2_3 := rX2_3 hL
    have r2_4 := rX2_4 hL
    have r2_5 := rX2_5 hL
    have inn := dg_l2 hm hrf (t := t) (by omega) h50 S0 I0 Q 5 0 g S I L (by omega) h hf (fun S' I' L' q1 q2 => by
      have hi := ih (t + 1) (dgO A t 5 0 g) (some (tI (5 : Nat))) S' I' L' (by omega) q1 q2 kk
      refine wa_iinc dX11_digest_77 rfl (by decide) ?_
      refine wa_goto 33 dX11_digest_80 (by decide) ?_
      exact hi
      )
    refine wa_iload_n dX11_digest_33 rfl ?_
    refine wa_aload_n dX11_digest_34 rfl ?_
    refine wt_getR dX11_digest_35 FX11_10 (by assumption) (by assumption) ?_
    refine wt_getR dX11_digest_38 FX11_32 (by assumption) (by assumption) ?_
    refine wt_getI dX11_digest_41 FX11_102 (by assumption) ?_
    try rw [hn]
    refine wa_icmp_ge 83 dX11_digest_44 (by decide) (by exact ⟨by omega, by omega⟩) (by exact ⟨by omega, by omega⟩) (fun c_44 => ?_) (fun c_44 => ?_)
    · omega
    · refine wa_iconst dX11_digest_47 ?_
      refine wa_istore dX11_digest_48 (by decide) ?_
      exact inn
set_option maxRecDepth 20000 in
theorem dg_l4 {m : Nat} {A : AS} (hm : m ≤ 1000) (hrf : ∀ j, j < 3 → A.2.2.2.1 j ≤ m) {t : Nat} (ht : t < A.1.2.length) (h6 : A.1.2.length ≤ 6) (S0 : tmS) (I0 : Nat → Nat → Int) (Q : Option tmV → tmH → Prop) : ∀ (k w : Nat) (g : Int64) (S : tmS) (I : Nat → Nat → Int) (L : Nat → Nat → Int64), w + k = 4 → CR S I L m A → MFr S0 I0 S I →
    (∀ (S : tmS) (I : Nat → Nat → Int) (L : Nat → Nat → Int64), CR S I L m A → MFr S0 I0 S I → tmW kX11_digest 10 0 0 138 [some (tR 0), some (tL (dgR A t k w g)), none, some (tI t), some (tI (4 : Nat))] [] (S, I, L) Q) →
    tmW kX11_digest 10 0 0 111 [some (tR 0), some (tL g), none, some (tI t), some (tI w)] [] (S, I, L) Q := by
  intro k
  induction k with
  | zero =>
    intro w g S I L hw h hf kk
    obtain rfl : w = 4 := by omega
    have := kk S I L h hf
    refine wa_iload dX11_digest_111 rfl ?_
    refine wa_iconst dX11_digest_113 ?_
    refine wa_icmp_gt 138 dX11_digest_114 (by decide) (by exact ⟨by omega, by omega⟩) (by exact ⟨by omega, by omega⟩) (fun c_114 => ?_) (fun c_114 => ?_)
    · exact this
    · omega
  | succ k ih =>
    intro w g S I L hw h hf kk
    have hL := h.1
    have o0 := oX0 hL
    have r0_0 := rX0_0 hL
    have r0_1 := rX0_1 hL
    have r0_2 := rX0_2 hL
    have r0_3 := rX0_3 hL
    have r0_4 := rX0_4 hL
    have r0_5 := rX0_5 hL
    have r0_6 := rX0_6 hL
    have r0_7 := rX0_7 hL
    have r0_8 := rX0_8 hL
    have hc := c_rule h hm (t : Int) (w : Int) ⟨by omega, by omega⟩ ⟨by omega, by omega⟩
    rw [spRule_st ⟨⟨by omega, by omega⟩, by omega, by omega⟩] at hc
    refine wa_iload dX11_digest_111 rfl ?_
    refine wa_iconst dX11_digest_113 ?_
    refine wa_icmp_gt 138 dX11_digest_114 (by decide) (by exact ⟨by omega, by omega⟩) (by exact ⟨by omega, by omega⟩) (fun c_114 => ?_) (fun c_114 => ?_)
    · omega
    · refine wa_ldc2 dX11_digest_117 QX11_245 ?_
      refine wa_lload_n dX11_digest_120 rfl ?_
      refine wa_lmul dX11_digest_121 ?_
      refine wa_aload_n dX11_digest_122 rfl ?_
      refine wa_iload_n dX11_digest_123 rfl ?_
      refine wa_iload dX11_digest_124 rfl ?_
      refine wa_callV (ci := 11) dX11_digest_126 KX11_rule LX11_253 ⟨_, _, rfl, by decide⟩ o0 (hc) (by decide) rfl (Nat.le_of_ble_eq_true rfl) rfl rfl (fun r h' hq => ?_)
      obtain ⟨rfl, S', I', L', rfl, q1, q2⟩ := hq
      refine wa_i2l dX11_digest_129 rfl ?_
      refine wa_ladd dX11_digest_130 ?_
      refine wa_lstore_n dX11_digest_131 (by decide) ?_
      refine wa_iinc dX11_digest_132 rfl (by decide) ?_
      refine wa_goto 111 dX11_digest_135 (by decide) ?_
      exact ih (w + 1) _ S' I' L' (by omega) (q1.dn hrf) (hf.trans' q2) kk
set_option maxRecDepth 20000 in
theorem dg_l5 {m : Nat} {A : AS} (hm : m ≤ 1000) (hrf : ∀ j, j < 3 → A.2.2.2.1 j ≤ m) (h6 : A.1.2.length ≤ 6) (S0 : tmS) (I0 : Nat → Nat → Int) (Q : Option tmV → tmH → Prop) : ∀ (k t : Nat) (g : Int64) (x : Option tmV) (S : tmS) (I : Nat → Nat → Int) (L : Nat → Nat → Int64), t + k = A.1.2.length → CR S I L m A → MFr S0 I0 S I →
    (∀ (x : Option tmV) (S : tmS) (I : Nat → Nat → Int) (L : Nat → Nat → Int64), CR S I L m A → MFr S0 I0 S I → tmW kX11_digest 10 0 0 144 [some (tR 0), some (tL (dgRs A k t g)), none, some (tI A.1.2.length), x] [] (S, I, L) Q) →
    tmW kX11_digest 10 0 0 97 [some (tR 0), some (tL g), none, some (tI t), x] [] (S, I, L) Q := by
  intro k
  induction k with
  | zero =>
    intro t g x S I L ht h hf kk
    have hL := h.1
    have hn := h.2.1.2.2.2.2.1.1
    have o0 := oX0 hL
    have r0_0 := rX0_0 hL
    have r0_1 := rX0_1 hL
    have r0_2 := rX0_2 hL
    have r0_3 := rX0_3 hL
    have r0_4 := rX0_4 hL
    have r0_5 := rX0_5 hL
    have r0_6 := rX0_6 hL
    have r0_7 := rX0_7 hL
    have r0_8 := rX0_8 hL
    have o1 := oX1 hL
    have r1_0 := rX1_0 hL
    have r1_1 := rX1_1 hL
    have r1_3 := rX1_3 hL
    obtain rfl : t = A.1.2.length := by omega
    have := kk x S I L h hf
    refine wa_iload_n dX11_digest_97 rfl ?_
    refine wa_aload_n dX11_digest_98 rfl ?_
    refine wt_getR dX11_digest_99 FX11_10 (by assumption) (by assumption) ?_
    refine wt_getI dX11_digest_102 FX11_203 (by assumption) ?_
    try rw [hn]
    refine wa_icmp_ge 144 dX11_digest_105 (by decide) (by exact ⟨by omega, by omega⟩) (by exact ⟨by omega, by omega⟩) (fun c_105 => ?_) (fun c_105 => ?_)
    · exact this
    · omega
  | succ k ih =>
    intro t g x S I L ht h hf kk
    have hL := h.1
    have hn := h.2.1.2.2.2.2.1.1
    have o0 := oX0 hL
    have r0_0 := rX0_0 hL
    have r0_1 := rX0_1 hL
    have r0_2 := rX0_2 hL
    have r0_3 := rX0_3 hL
    have r0_4 := rX0_4 hL
    have r0_5 := rX0_5 hL
    have r0_6 := rX0_6 hL
    have r0_7 := rX0_7 hL
    have r0_8 := rX0_8 hL
    have o1 := oX1 hL
    have r1_0 := rX1_0 hL
    have r1_1 := rX1_1 hL
    have r1_3 := rX1_3 hL
    have inn := dg_l4 hm hrf (t := t) (by omega) h6 S0 I0 Q 4 0 g S I L (by omega) h hf (fun S' I' L' q1 q2 => by
      have hi := ih (t + 1) (dgR A t 4 0 g) (some (tI (4 : Nat))) S' I' L' (by omega) q1 q2 kk
      refine wa_iinc dX11_digest_138 rfl (by decide) ?_
      refine wa_goto 97 dX11_digest_141 (by decide) ?_
      exact hi
      )
    refine wa_iload_n dX11_digest_97 rfl ?_
    refine wa_aload_n dX11_digest_98 rfl ?_
    refine wt_getR dX11_digest_99 FX11_10 (by assumption) (by assumption) ?_
    refine wt_getI dX11_digest_102 FX11_203 (by assumption) ?_
    try rw [hn]
    refine wa_icmp_ge 144 dX11_digest_105 (by decide) (by exact ⟨by omega, by omega⟩) (by exact ⟨by omega, by omega⟩) (fun c_105 => ?_) (fun c_105 => ?_)
    · omega
    · refine wa_iconst dX11_digest_108 ?_
      refine wa_istore dX11_digest_109 (by decide) ?_
      exact inn
set_option maxRecDepth 20000 in
theorem c_digest {m : Nat} {A : AS} (h : CR S I L m A) (hm : m ≤ 1000) : tmC yX11_digest kX11_digest 10 0 0 [tR 0] (S, I, L) (CPost S I (m + 1) (tL (spDigest A)) A) := by
  refine tmC.mk (lv := [some (tR 0), none, none, none, none]) 4 ⟨rfl, by decide +kernel, by decide⟩ rfl rfl ?_
  have hrf : ∀ j, j < 3 → A.2.2.2.1 j ≤ m := fun j hj => (h.2.2.2.2.2.2.1 j hj).2.2
  have h50 := h.2.1.tinv.2.1
  have h6 := h.2.1.2.2.2.2.1.2.1
  have l1 := dg_l1 hm hrf S I (CPost S I (m + 1) (tL (spDigest A)) A) 9 0 2039 S I L (by omega) h MFr.rfl' (fun S1 I1 L1 a1 a2 => by
    have l3 := dg_l3 hm hrf h50 S I (CPost S I (m + 1) (tL (spDigest A)) A) A.1.1.1 0 (dgT A 9 0 2039) none S1 I1 L1 (by omega) a1 a2 (fun x S2 I2 L2 b1 b2 => by
      have hL := b1.1
      have o0 := oX0 hL
      have r0_0 := rX0_0 hL
      have r0_1 := rX0_1 hL
      have r0_2 := rX0_2 hL
      have r0_3 := rX0_3 hL
      have r0_4 := rX0_4 hL
      have r0_5 := rX0_5 hL
      have r0_6 := rX0_6 hL
      have r0_7 := rX0_7 hL
      have r0_8 := rX0_8 hL
      have hc := c_classesA b1
      have rest : ∀ (S3 : tmS) (I3 : Nat → Nat → Int) (L3 : Nat → Nat → Int64), CR S3 I3 L3 m A → MFr S I S3 I3 → tmW kX11_digest 10 0 0 95 [some (tR 0), some (tL (hs1 (dgOs A A.1.1.1 0 (dgT A 9 0 2039)) (spClasses A))), none, some (tI A.1.1.1), x] [] (S3, I3, L3) (CPost S I (m + 1) (tL (spDigest A)) A) := by
        intro S3 I3 L3 c1 c2
        have l5 := dg_l5 hm hrf h6 S I (CPost S I (m + 1) (tL (spDigest A)) A) A.1.2.length 0 (hs1 (dgOs A A.1.1.1 0 (dgT A 9 0 2039)) (spClasses A)) x S3 I3 L3 (by omega) c1 c2 (fun x S4 I4 L4 d1 d2 => by
          refine wa_lload_n dX11_digest_144 rfl ?_
          refine wa_lreturn dX11_digest_145 rfl ?_
          exact ⟨rfl, S4, I4, L4, rfl, d1.up (by omega), d2⟩
          )
        refine wa_iconst dX11_digest_95 ?_
        refine wa_istore_n dX11_digest_96 (by decide) ?_
        exact l5
      refine wa_ldc2 dX11_digest_83 QX11_245 ?_
      refine wa_lload_n dX11_digest_86 rfl ?_
      refine wa_lmul dX11_digest_87 ?_
      refine wa_aload_n dX11_digest_88 rfl ?_
      refine wa_callV (ci := 11) dX11_digest_89 KX11_classes LX11_119 ⟨_, _, rfl, by decide⟩ o0 (hc) (by decide) rfl (Nat.le_of_ble_eq_true rfl) rfl rfl (fun r h' hq => ?_)
      obtain ⟨rfl, S3, I3, L3, rfl, q1, q2⟩ := hq
      refine wa_i2l dX11_digest_92 rfl ?_
      refine wa_ladd dX11_digest_93 ?_
      refine wa_lstore_n dX11_digest_94 (by decide) ?_
      exact rest S3 I3 L3 (q1.dn hrf) (b2.trans' q2)
      )
    refine wa_iconst dX11_digest_31 ?_
    refine wa_istore_n dX11_digest_32 (by decide) ?_
    exact l3
    )
  refine wa_ldc2 dX11_digest_0 QX11_243 ?_
  refine wa_lstore_n dX11_digest_3 (by decide) ?_
  refine wa_iconst dX11_digest_4 ?_
  refine wa_istore_n dX11_digest_5 (by decide) ?_
  exact l1
end S93
