/-! ===== 84: TriggerMatches: term ===== -/
def g0X (X : TS) (t : Nat) : TS := (X.1, X.2.1, X.2.2.1, X.2.2.2.1, va_up X.2.2.2.2.1 t 0, X.2.2.2.2.2)
theorem g0X_ok {X : TS} (h : TsOK X) (t : Nat) : TsOK (g0X X t) := ⟨h.1, h.2.1, h.2.2.1, fun j hj => by
  show 0 ≤ va_up X.2.2.2.2.1 t 0 j ∧ va_up X.2.2.2.2.1 t 0 j ≤ 9
  by_cases e : j = t
  · subst e; rw [vup_s]; omega
  · rw [vup_n e]; exact h.2.2.2 j hj⟩
theorem g0X_cg {X Y : TS} (h : TsEq X Y) (t : Nat) : TsEq (g0X X t) (g0X Y t) := ⟨h.1, fun j hj => by
  obtain ⟨a, b, c, d, e⟩ := h.2 j hj
  refine ⟨a, b, c, ?_, e⟩
  show va_up Y.2.2.2.2.1 t 0 j = va_up X.2.2.2.2.1 t 0 j
  by_cases z : j = t
  · subst z; rw [vup_s, vup_s]
  · rw [vup_n z, vup_n z]; exact d⟩
noncomputable def spTerm (A : AS) (s p q : Int) : Int × AS :=
  if (0 ≤ s ∧ s ≤ 6) ∧ (4 ≤ s → isT A p) ∧ (s = 6 → isT A q) then
    (match tsCome A.1.1 s (if 4 ≤ s then p else -1) (if s = 6 then q else -1) 0 with
    | none => (-4, aRf A 2)
    | some o => (o.1, aNow (aKeep A) (clX (g0X o.2 o.1.toNat), A.1.2)))
  else (-2, aRf A 0)
section S84
variable {S : tmS} {I : Nat → Nat → Int} {L : Nat → Nat → Int64}
theorem MFr.trans' {S1 S2 S3 : tmS} {I1 I2 I3 : Nat → Nat → Int} (h : MFr S1 I1 S2 I2) (g : MFr S2 I2 S3 I3) : MFr S1 I1 S3 I3 := fun a a1 a2 => (g a a1 a2).trans (h a a1 a2)
abbrev NPost (S : tmS) (I : Nat → Nat → Int) (m : Nat) (v : Int) (A : AS) : Option tmV → tmH → Prop := fun q h' => q = some (tI v) ∧ ∃ S' I' L', h' = (S', I', L') ∧ CR S' I' L' m A ∧ MFr S I S' I'
set_option maxRecDepth 20000 in
theorem term_end {m : Nat} {A : AS} (h : CR S I L m A) {J : Nat → Nat → Int} (e : ∀ a, (a < 2 ∨ 8 ≤ a) → J a = I a) {Y : TS} (hr : RowsEq J 2 Y) (hY : TsOK Y) (v : Int) (hv : inR v) {s p q a b f4 f5 : Int} : tmW kX11_term 7 0 0 208 [some (tR 0), some (tI s), some (tI p), some (tI q), some (tI f4), some (tI f5), some (tI a), some (tI b), some (tI v)] [] (S, J, L) (NPost S I m v (aNow A (clX Y, A.1.2))) := by
  have hL := h.1
  have o0 := oX0 hL
  have r0_0 := rX0_0 hL
  have r0_1 := rX0_1 hL
  have r0_2 := rX0_2 hL
  have r0_3 := rX0_3 hL
  have r0_4 := rX0_4 hL
  have r0_5 := rX0_5 hL
  have r0_6 := rX0_6 hL
  have r0_7 := rX0_7 hL
  have r0_8 := rX0_8 hL
  have hrl : RulesAt S J 1 A.1.2 := h.2.1.2.2.2.2.1.pf ⟨Nat.le_refl _, fun a a1 _ => ⟨rfl, rfl, rfl, e a (by omega)⟩⟩ (by rw [e 1 (by omega)]) (fun _ _ => rfl)
  have hs := c_settleCR h (J := J) (fun a ha => e a (by omega)) hr hY hrl
  refine wa_aload_n dX11_term_208 rfl ?_
  refine wa_callV (ci := 11) dX11_term_209 KX11_settleAll LX11_116 ⟨_, _, rfl, by decide⟩ o0 (hs) (by decide) rfl (Nat.le_of_ble_eq_true rfl) rfl rfl (fun r h' hq => ?_)
  obtain ⟨rfl, I3, rfl, q1, q2, _⟩ := hq
  refine wa_iload dX11_term_212 rfl ?_
  refine wa_ireturn dX11_term_214 rfl ?_
  exact ⟨rfl, S, I3, L, rfl, q1, q2⟩
set_option maxRecDepth 20000 in
theorem term_a {m : Nat} {A : AS} (h : CR S I L m A) {t : Nat} (ht : t < A.1.1.1) {s p q a b f4 f5 : Int} : tmW kX11_term 7 0 0 167 [some (tR 0), some (tI s), some (tI p), some (tI q), some (tI f4), some (tI f5), some (tI a), some (tI b), some (tI t)] [] (S, I, L) (NPost S I m t (aNow A (clX (g0X A.1.1 t), A.1.2))) := by
  have hL := h.1
  have hn5 := h.2.1.tinv.2.1
  have o0 := oX0 hL
  have r0_0 := rX0_0 hL
  have r0_1 := rX0_1 hL
  have r0_2 := rX0_2 hL
  have r0_3 := rX0_3 hL
  have r0_4 := rX0_4 hL
  have r0_5 := rX0_5 hL
  have r0_6 := rX0_6 hL
  have r0_7 := rX0_7 hL
  have r0_8 := rX0_8 hL
  have o1 := oX1 hL
  have r1_0 := rX1_0 hL
  have r1_1 := rX1_1 hL
  have r1_3 := rX1_3 hL
  have o2 := oX2 hL
  have r2_1 := rX2_1 hL
  have r2_2 := rX2_2 hL
  have r2_3 := rX2_3 hL
  have r2_4 := rX2_4 hL
  have r2_5 := rX2_5 hL
  have o6 := oX6 hL
  have hr : RowsEq (va_up I 6 (va_up (I 6) t 0)) 2 (g0X A.1.1 t) := by
    have h1 := h.2.1.1
    refine ⟨by rw [vup_n (by decide)]; exact h1.1, fun j hj => ?_⟩
    obtain ⟨q1, q2, q3, q4, q5⟩ := h1.2 j hj
    refine ⟨by rw [vup_n (by decide)]; exact q1, by rw [vup_n (by decide)]; exact q2, by rw [vup_n (by decide)]; exact q3, ?_, by rw [vup_n (by decide)]; exact q5⟩
    show va_up I 6 (va_up (I 6) t 0) 6 j = va_up A.1.1.2.2.2.2.1 t 0 j
    rw [vup_s]
    by_cases z : j = t
    · subst z; rw [vup_s, vup_s]
    · rw [vup_n z, vup_n z]; exact q4
  have fin := term_end h (J := va_up I 6 (va_up (I 6) t 0)) (fun a ha => vup_n (by omega)) hr (g0X_ok h.2.1.2.1.1 t) (t : Int) ⟨by omega, by omega⟩ (s := s) (p := p) (q := q) (a := a) (b := b) (f4 := f4) (f5 := f5)
  refine wa_iload dX11_term_167 rfl ?_
  refine wa_iconst dX11_term_169 ?_
  refine wa_icmp_ne 194 dX11_term_170 (by decide) (by exact ⟨by omega, by omega⟩) (by exact ⟨by omega, by omega⟩) (fun c_170 => ?_) (fun c_170 => ?_)
  · refine wa_aload_n dX11_term_194 rfl ?_
    refine wt_getR dX11_term_195 FX11_10 (by assumption) (by assumption) ?_
    refine wt_getR dX11_term_198 FX11_32 (by assumption) (by assumption) ?_
    refine wt_getR dX11_term_201 FX11_113 (by assumption) (by assumption) ?_
    refine wa_iload dX11_term_204 rfl ?_
    refine wa_iconst dX11_term_206 ?_
    refine wt_iast t dX11_term_207 (by assumption) rfl (by omega) (by exact ⟨by omega, by omega⟩) ?_
    exact fin
  · omega
set_option maxRecDepth 20000 in
theorem term_b {m : Nat} {A : AS} (h : CR S I L m A) {s p q a b f4 f5 : Int} (hn : A.1.1.1 < 50) (hp : PtOK A.1.1.1 s a b) : tmW kX11_term 7 0 0 167 [some (tR 0), some (tI s), some (tI p), some (tI q), some (tI f4), some (tI f5), some (tI a), some (tI b), some (tI (-1))] [] (S, I, L) (NPost S I m (A.1.1.1 : Nat) (aNow A (clX (g0X (tsAdd A.1.1 s a b 0) A.1.1.1), A.1.2))) := by
  have hL := h.1
  have hT := h.2.1.tinv
  have o0 := oX0 hL
  have r0_0 := rX0_0 hL
  have r0_1 := rX0_1 hL
  have r0_2 := rX0_2 hL
  have r0_3 := rX0_3 hL
  have r0_4 := rX0_4 hL
  have r0_5 := rX0_5 hL
  have r0_6 := rX0_6 hL
  have r0_7 := rX0_7 hL
  have r0_8 := rX0_8 hL
  have o1 := oX1 hL
  have r1_0 := rX1_0 hL
  have r1_1 := rX1_1 hL
  have r1_3 := rX1_3 hL
  have o2 := oX2 hL
  have r2_1 := rX2_1 hL
  have r2_2 := rX2_2 hL
  have r2_3 := rX2_3 hL
  have r2_4 := rX2_4 hL
  have r2_5 := rX2_5 hL
  have h1 := h.2.1.1
  have hpp := hp
  obtain ⟨p1, p2, p3, p4, p5, p6⟩ := hpp
  have ra : inR a := by
    by_cases z : s < 4
    · rw [p3 z]; exact ⟨by omega, by omega⟩
    · have := p4 (by omega); exact ⟨by omega, by omega⟩
  have rb : inR b := by
    by_cases z : s < 6
    · rw [p5 z]; exact ⟨by omega, by omega⟩
    · have := p6 (by omega); exact ⟨by omega, by omega⟩
  have hadd := c_add (L := L) hL hT.1 hn s a b 0 ⟨by omega, by omega⟩ ra rb ⟨by omega, by omega⟩
  have hr : RowsEq (tmAdd I A.1.1.1 s a b 0) 2 (g0X (tsAdd A.1.1 s a b 0) A.1.1.1) := by
    refine ⟨?_, fun j hj => ?_⟩
    · simp only [tmAdd]
      rw [vup_s, vup_s]; rfl
    · have hj : j < A.1.1.1 + 1 := hj
      simp only [tmAdd]
      show _ ∧ _ ∧ _ ∧ _ = va_up (va_up A.1.1.2.2.2.2.1 A.1.1.1 0) A.1.1.1 0 j ∧ _
      rw [vup_vup]
      by_cases z : j = A.1.1.1
      · subst z
        simp (disch := decide) only [vup_s, vup_n, tsAdd, g0X, and_self]
      · obtain ⟨q1, q2, q3, q4, q5⟩ := h1.2 j (by omega)
        simp (disch := first | decide | omega) only [vup_s, vup_n, tsAdd, g0X]
        exact ⟨q1, q2, q3, q4, q5⟩
  have fin := term_end h (J := tmAdd I A.1.1.1 s a b 0) (fun x hx => by simp only [tmAdd]; simp (disch := omega) only [vup_n]) hr (g0X_ok (tsAdd_ok h.2.1.2.1.1 hn hp ⟨by decide, by decide⟩) _) (A.1.1.1 : Nat) ⟨by omega, by omega⟩ (s := s) (p := p) (q := q) (a := a) (b := b) (f4 := f4) (f5 := f5)
  refine wa_iload dX11_term_167 rfl ?_
  refine wa_iconst dX11_term_169 ?_
  refine wa_icmp_ne 194 dX11_term_170 (by decide) (by exact ⟨by omega, by omega⟩) (by exact ⟨by omega, by omega⟩) (fun c_170 => ?_) (fun c_170 => ?_)
  · omega
  · refine wa_aload_n dX11_term_173 rfl ?_
    refine wt_getR dX11_term_174 FX11_10 (by assumption) (by assumption) ?_
    refine wt_getR dX11_term_177 FX11_32 (by assumption) (by assumption) ?_
    refine wa_iload_n dX11_term_180 rfl ?_
    refine wa_iload dX11_term_181 rfl ?_
    refine wa_iload dX11_term_183 rfl ?_
    refine wa_iconst dX11_term_185 ?_
    refine wa_callVf (ci := 8) dX11_term_186 KX8_add LX11_109 ⟨_, _, rfl, by decide⟩ o2 (hadd) (by decide) rfl rfl (Nat.le_of_ble_eq_true rfl) rfl rfl ?_
    refine wa_istore dX11_term_189 (by decide) ?_
    refine wa_goto 208 dX11_term_191 (by decide) ?_
    exact fin
set_option maxRecDepth 20000 in
theorem term_tail {m : Nat} {A : AS} (h : CR S I L m A) (hm : m ≤ 1000) {s p q a b f4 f5 : Int} (hp : PtOK A.1.1.1 s a b) : tmW kX11_term 7 0 0 111 [some (tR 0), some (tI s), some (tI p), some (tI q), some (tI f4), some (tI f5), some (tI a), some (tI b), none] [] (S, I, L) (match tsCome A.1.1 s a b 0 with
    | none => CPost S I (m + 1) (tI (-4)) (aRf A 2)
    | some o => CPost S I (m + 1) (tI o.1) (aNow (aKeep A) (clX (g0X o.2 o.1.toNat), A.1.2))) := by
  have hL := h.1
  have hT := h.2.1.tinv
  have hn5 := hT.2.1
  have hn := hT.1
  have o0 := oX0 hL
  have r0_0 := rX0_0 hL
  have r0_1 := rX0_1 hL
  have r0_2 := rX0_2 hL
  have r0_3 := rX0_3 hL
  have r0_4 := rX0_4 hL
  have r0_5 := rX0_5 hL
  have r0_6 := rX0_6 hL
  have r0_7 := rX0_7 hL
  have r0_8 := rX0_8 hL
  have o1 := oX1 hL
  have r1_0 := rX1_0 hL
  have r1_1 := rX1_1 hL
  have r1_3 := rX1_3 hL
  have o2 := oX2 hL
  have r2_1 := rX2_1 hL
  have r2_2 := rX2_2 hL
  have r2_3 := rX2_3 hL
  have r2_4 := rX2_4 hL
  have r2_5 := rX2_5 hL
  have o14 := oX14 hL
  have r14_0 := rX14_0 hL
  have hts := h.2.1.1.ts
  obtain ⟨p1, p2, p3, p4, p5, p6⟩ := id hp
  have ra : inR a := by
    by_cases z : s < 4
    · rw [p3 z]; exact ⟨by omega, by omega⟩
    · have := p4 (by omega); exact ⟨by omega, by omega⟩
  have rb : inR b := by
    by_cases z : s < 6
    · rw [p5 z]; exact ⟨by omega, by omega⟩
    · have := p6 (by omega); exact ⟨by omega, by omega⟩
  have hlk := c_lookUp (L := L) hL hn hn5 s a b ⟨by omega, by omega⟩ ra rb
  have elk : tmScan (fun t => I 3 t = s ∧ I 4 t = a ∧ I 5 t = b) A.1.1.1 0 = tsLk A.1.1 s a b := tsLk_cg hts s a b
  rw [elk] at hlk
  have hin := tsLk_in A.1.1 s a b
  have hrf := c_rf2 h hm
  have hk := c_keepA h
  unfold tsCome
  by_cases c : tsLk A.1.1 s a b = -1
  · rw [c] at hlk
    by_cases c5 : A.1.1.1 < 50
    · rw [if_pos c, if_pos c5]
      refine wa_aload_n dX11_term_111 rfl ?_
      refine wt_getR dX11_term_112 FX11_10 (by assumption) (by assumption) ?_
      refine wt_getR dX11_term_115 FX11_32 (by assumption) (by assumption) ?_
      refine wa_iload_n dX11_term_118 rfl ?_
      refine wa_iload dX11_term_119 rfl ?_
      refine wa_iload dX11_term_121 rfl ?_
      refine wa_callVf (ci := 8) dX11_term_123 KX8_lookUp LX11_98 ⟨_, _, rfl, by decide⟩ o2 (hlk) (by decide) rfl rfl (Nat.le_of_ble_eq_true rfl) rfl rfl ?_
      refine wa_istore dX11_term_126 (by decide) ?_
      refine wa_iload dX11_term_128 rfl ?_
      refine wa_iconst dX11_term_130 ?_
      refine wa_icmp_ne 156 dX11_term_131 (by decide) (by exact ⟨by omega, by omega⟩) (by exact ⟨by omega, by omega⟩) (fun c_131 => ?_) (fun c_131 => ?_)
      · omega
      · refine wa_aload_n dX11_term_134 rfl ?_
        refine wt_getR dX11_term_135 FX11_10 (by assumption) (by assumption) ?_
        refine wt_getR dX11_term_138 FX11_32 (by assumption) (by assumption) ?_
        refine wt_getI dX11_term_141 FX11_102 (by assumption) ?_
        try first | rw [hn] | skip
        refine wa_bipush dX11_term_144 rfl ?_
        refine wa_icmp_lt 156 dX11_term_146 (by decide) (by exact ⟨by omega, by omega⟩) (by exact ⟨by omega, by omega⟩) (fun c_146 => ?_) (fun c_146 => ?_)
        · refine wa_aload_n dX11_term_156 rfl ?_
          refine wt_getR dX11_term_157 FX11_19 (by assumption) (by assumption) ?_
          refine wa_aload_n dX11_term_160 rfl ?_
          refine wt_getR dX11_term_161 FX11_10 (by assumption) (by assumption) ?_
          refine wa_callV (ci := 7) dX11_term_164 KX7_keep LX11_105 ⟨_, _, rfl, by decide⟩ o14 (hk) (by decide) rfl (Nat.le_of_ble_eq_true rfl) rfl rfl (fun r h' hq => ?_)
          obtain ⟨rfl, S', I', rfl, q1, q2, q3, q4, q5⟩ := hq
          refine (term_b q1 c5 hp).wk (fun r h'' hr => ?_)
          obtain ⟨rfl, S2, I2, L2, rfl, r1, r2⟩ := hr
          exact ⟨rfl, S2, I2, L2, rfl, r1.up (by omega), q2.trans' r2⟩
        · omega
    · rw [if_pos c, if_neg c5]
      refine wa_aload_n dX11_term_111 rfl ?_
      refine wt_getR dX11_term_112 FX11_10 (by assumption) (by assumption) ?_
      refine wt_getR dX11_term_115 FX11_32 (by assumption) (by assumption) ?_
      refine wa_iload_n dX11_term_118 rfl ?_
      refine wa_iload dX11_term_119 rfl ?_
      refine wa_iload dX11_term_121 rfl ?_
      refine wa_callVf (ci := 8) dX11_term_123 KX8_lookUp LX11_98 ⟨_, _, rfl, by decide⟩ o2 (hlk) (by decide) rfl rfl (Nat.le_of_ble_eq_true rfl) rfl rfl ?_
      refine wa_istore dX11_term_126 (by decide) ?_
      refine wa_iload dX11_term_128 rfl ?_
      refine wa_iconst dX11_term_130 ?_
      refine wa_icmp_ne 156 dX11_term_131 (by decide) (by exact ⟨by omega, by omega⟩) (by exact ⟨by omega, by omega⟩) (fun c_131 => ?_) (fun c_131 => ?_)
      · omega
      · refine wa_aload_n dX11_term_134 rfl ?_
        refine wt_getR dX11_term_135 FX11_10 (by assumption) (by assumption) ?_
        refine wt_getR dX11_term_138 FX11_32 (by assumption) (by assumption) ?_
        refine wt_getI dX11_term_141 FX11_102 (by assumption) ?_
        try first | rw [hn] | skip
        refine wa_bipush dX11_term_144 rfl ?_
        refine wa_icmp_lt 156 dX11_term_146 (by decide) (by exact ⟨by omega, by omega⟩) (by exact ⟨by omega, by omega⟩) (fun c_146 => ?_) (fun c_146 => ?_)
        · omega
        · refine wa_aload_n dX11_term_149 rfl ?_
          refine wa_bipush dX11_term_150 rfl ?_
          refine wa_callV (ci := 11) dX11_term_152 KX11_refuse LX11_88 ⟨_, _, rfl, by decide⟩ o0 (hrf) (by decide) rfl (Nat.le_of_ble_eq_true rfl) rfl rfl (fun r h' hq => ?_)
          obtain ⟨rfl, hq⟩ := hq
          refine wa_ireturn dX11_term_155 rfl ?_
          exact ⟨rfl, hq⟩
  · obtain ⟨t, ht⟩ : ∃ t : Nat, tsLk A.1.1 s a b = (t : Int) := ⟨(tsLk A.1.1 s a b).toNat, by omega⟩
    rw [if_neg c]
    rw [ht] at hlk hin c ⊢
    refine wa_aload_n dX11_term_111 rfl ?_
    refine wt_getR dX11_term_112 FX11_10 (by assumption) (by assumption) ?_
    refine wt_getR dX11_term_115 FX11_32 (by assumption) (by assumption) ?_
    refine wa_iload_n dX11_term_118 rfl ?_
    refine wa_iload dX11_term_119 rfl ?_
    refine wa_iload dX11_term_121 rfl ?_
    refine wa_callVf (ci := 8) dX11_term_123 KX8_lookUp LX11_98 ⟨_, _, rfl, by decide⟩ o2 (hlk) (by decide) rfl rfl (Nat.le_of_ble_eq_true rfl) rfl rfl ?_
    refine wa_istore dX11_term_126 (by decide) ?_
    refine wa_iload dX11_term_128 rfl ?_
    refine wa_iconst dX11_term_130 ?_
    refine wa_icmp_ne 156 dX11_term_131 (by decide) (by exact ⟨by omega, by omega⟩) (by exact ⟨by omega, by omega⟩) (fun c_131 => ?_) (fun c_131 => ?_)
    · refine wa_aload_n dX11_term_156 rfl ?_
      refine wt_getR dX11_term_157 FX11_19 (by assumption) (by assumption) ?_
      refine wa_aload_n dX11_term_160 rfl ?_
      refine wt_getR dX11_term_161 FX11_10 (by assumption) (by assumption) ?_
      refine wa_callV (ci := 7) dX11_term_164 KX7_keep LX11_105 ⟨_, _, rfl, by decide⟩ o14 (hk) (by decide) rfl (Nat.le_of_ble_eq_true rfl) rfl rfl (fun r h' hq => ?_)
      obtain ⟨rfl, S', I', rfl, q1, q2, q3, q4, q5⟩ := hq
      refine (term_a q1 (t := t) (show t < A.1.1.1 by omega)).wk (fun r h'' hr => ?_)
      obtain ⟨rfl, S2, I2, L2, rfl, r1, r2⟩ := hr
      exact ⟨rfl, S2, I2, L2, rfl, r1.up (by omega), q2.trans' r2⟩
    · omega
set_option maxRecDepth 20000 in
theorem c_term {m : Nat} {A : AS} (h : CR S I L m A) (hm : m ≤ 1000) (s p q : Int) (hs : inR s) (hp : inR p) (hq0 : inR q) : tmC yX11_term kX11_term 7 0 0 [tR 0, tI s, tI p, tI q] (S, I, L) (CPost S I (m + 1) (tI (spTerm A s p q).1) (spTerm A s p q).2) := by
  refine tmC.mk (lv := [some (tR 0), some (tI s), some (tI p), some (tI q), none, none, none, none, none]) 5 ⟨rfl, by decide +kernel, by decide⟩ rfl rfl ?_
  have hL := h.1
  have hT := h.2.1.tinv
  have o0 := oX0 hL
  have r0_0 := rX0_0 hL
  have r0_1 := rX0_1 hL
  have r0_2 := rX0_2 hL
  have r0_3 := rX0_3 hL
  have r0_4 := rX0_4 hL
  have r0_5 := rX0_5 hL
  have r0_6 := rX0_6 hL
  have r0_7 := rX0_7 hL
  have r0_8 := rX0_8 hL
  have o1 := oX1 hL
  have r1_0 := rX1_0 hL
  have r1_1 := rX1_1 hL
  have r1_3 := rX1_3 hL
  have o2 := oX2 hL
  have r2_1 := rX2_1 hL
  have r2_2 := rX2_2 hL
  have r2_3 := rX2_3 hL
  have r2_4 := rX2_4 hL
  have r2_5 := rX2_5 hL
  have hrf := c_rf0 h hm
  have k1 := c_has (L := L) hL hT.1 p hp
  have k2 := c_has (L := L) hL hT.1 q hq0
  have good : ∀ {a b : Int}, (0 ≤ s ∧ s ≤ 6) → (4 ≤ s → isT A p) → (s = 6 → isT A q) → a = (if 4 ≤ s then p else -1) → b = (if s = 6 then q else -1) → ∀ (f4 f5 : Int), tmW kX11_term 7 0 0 111 [some (tR 0), some (tI s), some (tI p), some (tI q), some (tI f4), some (tI f5), some (tI a), some (tI b), none] [] (S, I, L) (CPost S I (m + 1) (tI (spTerm A s p q).1) (spTerm A s p q).2) := by
    intro a b g1 g2 g3 ea eb f4 f5
    have hpt : PtOK A.1.1.1 s a b := by
      subst ea; subst eb
      refine ⟨g1.1, g1.2, fun z => if_neg (by omega), fun z => ?_, fun z => if_neg (by omega), fun z => ?_⟩
      · rw [if_pos z]; exact g2 z
      · rw [if_pos z]; exact g3 z
    have := term_tail h hm (p := p) (q := q) (f4 := f4) (f5 := f5) hpt
    unfold spTerm
    rw [if_pos ⟨g1, g2, g3⟩, ← ea, ← eb]
    cases hc : tsCome A.1.1 s a b 0 with
    | none => rw [hc] at this; exact this
    | some o => rw [hc] at this; exact this
  have bad : ¬ ((0 ≤ s ∧ s ≤ 6) ∧ (4 ≤ s → isT A p) ∧ (s = 6 → isT A q)) → spTerm A s p q = (-2, aRf A 0) := fun z => by unfold spTerm; rw [if_neg z]
  by_cases c1 : 0 ≤ s ∧ s ≤ 6
  · by_cases c4 : s < 4
    · refine wa_iload_n dX11_term_0 rfl ?_
      refine wa_if_lt 10 dX11_term_1 (by decide) (by first | exact hs | exact ⟨by omega, by omega⟩) (fun c_1 => ?_) (fun c_1 => ?_)
      · omega
      · refine wa_iload_n dX11_term_4 rfl ?_
        refine wa_bipush dX11_term_5 rfl ?_
        refine wa_icmp_le 17 dX11_term_7 (by decide) (by first | exact hs | exact ⟨by omega, by omega⟩) (by first | exact hs | exact ⟨by omega, by omega⟩) (fun c_7 => ?_) (fun c_7 => ?_)
        · refine wa_iload_n dX11_term_17 rfl ?_
          refine wa_iconst dX11_term_18 ?_
          refine wa_icmp_lt 26 dX11_term_19 (by decide) (by first | exact hs | exact ⟨by omega, by omega⟩) (by first | exact hs | exact ⟨by omega, by omega⟩) (fun c_19 => ?_) (fun c_19 => ?_)
          · refine wa_iconst dX11_term_26 ?_
            refine wa_istore dX11_term_27 (by decide) ?_
            refine wa_iload_n dX11_term_29 rfl ?_
            refine wa_bipush dX11_term_30 rfl ?_
            refine wa_icmp_ne 39 dX11_term_32 (by decide) (by first | exact hs | exact ⟨by omega, by omega⟩) (by first | exact hs | exact ⟨by omega, by omega⟩) (fun c_32 => ?_) (fun c_32 => ?_)
            · refine wa_iconst dX11_term_39 ?_
              refine wa_istore dX11_term_40 (by decide) ?_
              refine wa_iload dX11_term_42 rfl ?_
              refine wa_if_eq 61 dX11_term_44 (by decide) (by first | exact hs | exact ⟨by omega, by omega⟩) (fun c_44 => ?_) (fun c_44 => ?_)
              · refine wa_iload dX11_term_61 rfl ?_
                refine wa_if_eq 87 dX11_term_63 (by decide) (by first | exact hs | exact ⟨by omega, by omega⟩) (fun c_63 => ?_) (fun c_63 => ?_)
                · refine wa_iload dX11_term_87 rfl ?_
                  refine wa_if_eq 96 dX11_term_89 (by decide) (by first | exact hs | exact ⟨by omega, by omega⟩) (fun c_89 => ?_) (fun c_89 => ?_)
                  · refine wa_iconst dX11_term_96 ?_
                    refine wa_istore dX11_term_97 (by decide) ?_
                    refine wa_iload dX11_term_99 rfl ?_
                    refine wa_if_eq 108 dX11_term_101 (by decide) (by first | exact hs | exact ⟨by omega, by omega⟩) (fun c_101 => ?_) (fun c_101 => ?_)
                    · refine wa_iconst dX11_term_108 ?_
                      refine wa_istore dX11_term_109 (by decide) ?_
                      exact good c1 (fun z => by omega) (fun z => by omega) (by rw [if_neg (by omega)]) (by rw [if_neg (by omega)]) _ _
                    · omega
                  · omega
                · omega
              · omega
            · omega
          · omega
        · omega
    · by_cases cp : isT A p
      · rw [if_pos cp] at k1
        by_cases c6 : s = 6
        · by_cases cq : isT A q
          · rw [if_pos cq] at k2
            refine wa_iload_n dX11_term_0 rfl ?_
            refine wa_if_lt 10 dX11_term_1 (by decide) (by first | exact hs | exact ⟨by omega, by omega⟩) (fun c_1 => ?_) (fun c_1 => ?_)
            · omega
            · refine wa_iload_n dX11_term_4 rfl ?_
              refine wa_bipush dX11_term_5 rfl ?_
              refine wa_icmp_le 17 dX11_term_7 (by decide) (by first | exact hs | exact ⟨by omega, by omega⟩) (by first | exact hs | exact ⟨by omega, by omega⟩) (fun c_7 => ?_) (fun c_7 => ?_)
              · refine wa_iload_n dX11_term_17 rfl ?_
                refine wa_iconst dX11_term_18 ?_
                refine wa_icmp_lt 26 dX11_term_19 (by decide) (by first | exact hs | exact ⟨by omega, by omega⟩) (by first | exact hs | exact ⟨by omega, by omega⟩) (fun c_19 => ?_) (fun c_19 => ?_)
                · omega
                · refine wa_iconst dX11_term_22 ?_
                  refine wa_goto 27 dX11_term_23 (by decide) ?_
                  refine wa_istore dX11_term_27 (by decide) ?_
                  refine wa_iload_n dX11_term_29 rfl ?_
                  refine wa_bipush dX11_term_30 rfl ?_
                  refine wa_icmp_ne 39 dX11_term_32 (by decide) (by first | exact hs | exact ⟨by omega, by omega⟩) (by first | exact hs | exact ⟨by omega, by omega⟩) (fun c_32 => ?_) (fun c_32 => ?_)
                  · omega
                  · refine wa_iconst dX11_term_35 ?_
                    refine wa_goto 40 dX11_term_36 (by decide) ?_
                    refine wa_istore dX11_term_40 (by decide) ?_
                    refine wa_iload dX11_term_42 rfl ?_
                    refine wa_if_eq 61 dX11_term_44 (by decide) (by first | exact hs | exact ⟨by omega, by omega⟩) (fun c_44 => ?_) (fun c_44 => ?_)
                    · omega
                    · refine wa_aload_n dX11_term_47 rfl ?_
                      refine wt_getR dX11_term_48 FX11_10 (by assumption) (by assumption) ?_
                      refine wt_getR dX11_term_51 FX11_32 (by assumption) (by assumption) ?_
                      refine wa_iload_n dX11_term_54 rfl ?_
                      refine wa_callVf (ci := 8) dX11_term_55 KX8_has LX11_92 ⟨_, _, rfl, by decide⟩ o2 (k1) (by decide) rfl rfl (Nat.le_of_ble_eq_true rfl) rfl rfl ?_
                      refine wa_if_eq 80 dX11_term_58 (by decide) (by first | exact hs | exact ⟨by omega, by omega⟩) (fun c_58 => ?_) (fun c_58 => ?_)
                      · omega
                      · refine wa_iload dX11_term_61 rfl ?_
                        refine wa_if_eq 87 dX11_term_63 (by decide) (by first | exact hs | exact ⟨by omega, by omega⟩) (fun c_63 => ?_) (fun c_63 => ?_)
                        · omega
                        · refine wa_aload_n dX11_term_66 rfl ?_
                          refine wt_getR dX11_term_67 FX11_10 (by assumption) (by assumption) ?_
                          refine wt_getR dX11_term_70 FX11_32 (by assumption) (by assumption) ?_
                          refine wa_iload_n dX11_term_73 rfl ?_
                          refine wa_callVf (ci := 8) dX11_term_74 KX8_has LX11_92 ⟨_, _, rfl, by decide⟩ o2 (k2) (by decide) rfl rfl (Nat.le_of_ble_eq_true rfl) rfl rfl ?_
                          refine wa_if_ne 87 dX11_term_77 (by decide) (by first | exact hs | exact ⟨by omega, by omega⟩) (fun c_77 => ?_) (fun c_77 => ?_)
                          · refine wa_iload dX11_term_87 rfl ?_
                            refine wa_if_eq 96 dX11_term_89 (by decide) (by first | exact hs | exact ⟨by omega, by omega⟩) (fun c_89 => ?_) (fun c_89 => ?_)
                            · omega
                            · refine wa_iload_n dX11_term_92 rfl ?_
                              refine wa_goto 97 dX11_term_93 (by decide) ?_
                              refine wa_istore dX11_term_97 (by decide) ?_
                              refine wa_iload dX11_term_99 rfl ?_
                              refine wa_if_eq 108 dX11_term_101 (by decide) (by first | exact hs | exact ⟨by omega, by omega⟩) (fun c_101 => ?_) (fun c_101 => ?_)
                              · omega
                              · refine wa_iload_n dX11_term_104 rfl ?_
                                refine wa_goto 109 dX11_term_105 (by decide) ?_
                                refine wa_istore dX11_term_109 (by decide) ?_
                                exact good c1 (fun _ => cp) (fun _ => cq) (by rw [if_pos (by omega)]) (by rw [if_pos c6]) _ _
                          · omega
              · omega
          · rw [if_neg cq] at k2
            rw [bad (fun z => cq (z.2.2 c6))]
            refine wa_iload_n dX11_term_0 rfl ?_
            refine wa_if_lt 10 dX11_term_1 (by decide) (by first | exact hs | exact ⟨by omega, by omega⟩) (fun c_1 => ?_) (fun c_1 => ?_)
            · omega
            · refine wa_iload_n dX11_term_4 rfl ?_
              refine wa_bipush dX11_term_5 rfl ?_
              refine wa_icmp_le 17 dX11_term_7 (by decide) (by first | exact hs | exact ⟨by omega, by omega⟩) (by first | exact hs | exact ⟨by omega, by omega⟩) (fun c_7 => ?_) (fun c_7 => ?_)
              · refine wa_iload_n dX11_term_17 rfl ?_
                refine wa_iconst dX11_term_18 ?_
                refine wa_icmp_lt 26 dX11_term_19 (by decide) (by first | exact hs | exact ⟨by omega, by omega⟩) (by first | exact hs | exact ⟨by omega, by omega⟩) (fun c_19 => ?_) (fun c_19 => ?_)
                · omega
                · refine wa_iconst dX11_term_22 ?_
                  refine wa_goto 27 dX11_term_23 (by decide) ?_
                  refine wa_istore dX11_term_27 (by decide) ?_
                  refine wa_iload_n dX11_term_29 rfl ?_
                  refine wa_bipush dX11_term_30 rfl ?_
                  refine wa_icmp_ne 39 dX11_term_32 (by decide) (by first | exact hs | exact ⟨by omega, by omega⟩) (by first | exact hs | exact ⟨by omega, by omega⟩) (fun c_32 => ?_) (fun c_32 => ?_)
                  · omega
                  · refine wa_iconst dX11_term_35 ?_
                    refine wa_goto 40 dX11_term_36 (by decide) ?_
                    refine wa_istore dX11_term_40 (by decide) ?_
                    refine wa_iload dX11_term_42 rfl ?_
                    refine wa_if_eq 61 dX11_term_44 (by decide) (by first | exact hs | exact ⟨by omega, by omega⟩) (fun c_44 => ?_) (fun c_44 => ?_)
                    · omega
                    · refine wa_aload_n dX11_term_47 rfl ?_
                      refine wt_getR dX11_term_48 FX11_10 (by assumption) (by assumption) ?_
                      refine wt_getR dX11_term_51 FX11_32 (by assumption) (by assumption) ?_
                      refine wa_iload_n dX11_term_54 rfl ?_
                      refine wa_callVf (ci := 8) dX11_term_55 KX8_has LX11_92 ⟨_, _, rfl, by decide⟩ o2 (k1) (by decide) rfl rfl (Nat.le_of_ble_eq_true rfl) rfl rfl ?_
                      refine wa_if_eq 80 dX11_term_58 (by decide) (by first | exact hs | exact ⟨by omega, by omega⟩) (fun c_58 => ?_) (fun c_58 => ?_)
                      · omega
                      · refine wa_iload dX11_term_61 rfl ?_
                        refine wa_if_eq 87 dX11_term_63 (by decide) (by first | exact hs | exact ⟨by omega, by omega⟩) (fun c_63 => ?_) (fun c_63 => ?_)
                        · omega
                        · refine wa_aload_n dX11_term_66 rfl ?_
                          refine wt_getR dX11_term_67 FX11_10 (by assumption) (by assumption) ?_
                          refine wt_getR dX11_term_70 FX11_32 (by assumption) (by assumption) ?_
                          refine wa_iload_n dX11_term_73 rfl ?_
                          refine wa_callVf (ci := 8) dX11_term_74 KX8_has LX11_92 ⟨_, _, rfl, by decide⟩ o2 (k2) (by decide) rfl rfl (Nat.le_of_ble_eq_true rfl) rfl rfl ?_
                          refine wa_if_ne 87 dX11_term_77 (by decide) (by first | exact hs | exact ⟨by omega, by omega⟩) (fun c_77 => ?_) (fun c_77 => ?_)
                          · omega
                          · refine wa_aload_n dX11_term_80 rfl ?_
                            refine wa_bipush dX11_term_81 rfl ?_
                            refine wa_callV (ci := 11) dX11_term_83 KX11_refuse LX11_88 ⟨_, _, rfl, by decide⟩ o0 (hrf) (by decide) rfl (Nat.le_of_ble_eq_true rfl) rfl rfl (fun r h' hq => ?_)
                            obtain ⟨rfl, hq⟩ := hq
                            refine wa_ireturn dX11_term_86 rfl ?_
                            exact ⟨rfl, hq⟩
              · omega
        · refine wa_iload_n dX11_term_0 rfl ?_
          refine wa_if_lt 10 dX11_term_1 (by decide) (by first | exact hs | exact ⟨by omega, by omega⟩) (fun c_1 => ?_) (fun c_1 => ?_)
          · omega
          · refine wa_iload_n dX11_term_4 rfl ?_
            refine wa_bipush dX11_term_5 rfl ?_
            refine wa_icmp_le 17 dX11_term_7 (by decide) (by first | exact hs | exact ⟨by omega, by omega⟩) (by first | exact hs | exact ⟨by omega, by omega⟩) (fun c_7 => ?_) (fun c_7 => ?_)
            · refine wa_iload_n dX11_term_17 rfl ?_
              refine wa_iconst dX11_term_18 ?_
              refine wa_icmp_lt 26 dX11_term_19 (by decide) (by first | exact hs | exact ⟨by omega, by omega⟩) (by first | exact hs | exact ⟨by omega, by omega⟩) (fun c_19 => ?_) (fun c_19 => ?_)
              · omega
              · refine wa_iconst dX11_term_22 ?_
                refine wa_goto 27 dX11_term_23 (by decide) ?_
                refine wa_istore dX11_term_27 (by decide) ?_
                refine wa_iload_n dX11_term_29 rfl ?_
                refine wa_bipush dX11_term_30 rfl ?_
                refine wa_icmp_ne 39 dX11_term_32 (by decide) (by first | exact hs | exact ⟨by omega, by omega⟩) (by first | exact hs | exact ⟨by omega, by omega⟩) (fun c_32 => ?_) (fun c_32 => ?_)
                · refine wa_iconst dX11_term_39 ?_
                  refine wa_istore dX11_term_40 (by decide) ?_
                  refine wa_iload dX11_term_42 rfl ?_
                  refine wa_if_eq 61 dX11_term_44 (by decide) (by first | exact hs | exact ⟨by omega, by omega⟩) (fun c_44 => ?_) (fun c_44 => ?_)
                  · omega
                  · refine wa_aload_n dX11_term_47 rfl ?_
                    refine wt_getR dX11_term_48 FX11_10 (by assumption) (by assumption) ?_
                    refine wt_getR dX11_term_51 FX11_32 (by assumption) (by assumption) ?_
                    refine wa_iload_n dX11_term_54 rfl ?_
                    refine wa_callVf (ci := 8) dX11_term_55 KX8_has LX11_92 ⟨_, _, rfl, by decide⟩ o2 (k1) (by decide) rfl rfl (Nat.le_of_ble_eq_true rfl) rfl rfl ?_
                    refine wa_if_eq 80 dX11_term_58 (by decide) (by first | exact hs | exact ⟨by omega, by omega⟩) (fun c_58 => ?_) (fun c_58 => ?_)
                    · omega
                    · refine wa_iload dX11_term_61 rfl ?_
                      refine wa_if_eq 87 dX11_term_63 (by decide) (by first | exact hs | exact ⟨by omega, by omega⟩) (fun c_63 => ?_) (fun c_63 => ?_)
                      · refine wa_iload dX11_term_87 rfl ?_
                        refine wa_if_eq 96 dX11_term_89 (by decide) (by first | exact hs | exact ⟨by omega, by omega⟩) (fun c_89 => ?_) (fun c_89 => ?_)
                        · omega
                        · refine wa_iload_n dX11_term_92 rfl ?_
                          refine wa_goto 97 dX11_term_93 (by decide) ?_
                          refine wa_istore dX11_term_97 (by decide) ?_
                          refine wa_iload dX11_term_99 rfl ?_
                          refine wa_if_eq 108 dX11_term_101 (by decide) (by first | exact hs | exact ⟨by omega, by omega⟩) (fun c_101 => ?_) (fun c_101 => ?_)
                          · refine wa_iconst dX11_term_108 ?_
                            refine wa_istore dX11_term_109 (by decide) ?_
                            exact good c1 (fun _ => cp) (fun z => absurd z c6) (by rw [if_pos (by omega)]) (by rw [if_neg c6]) _ _
                          · omega
                      · omega
                · omega
            · omega
      · rw [if_neg cp] at k1
        rw [bad (fun z => cp (z.2.1 (by omega)))]
        have at44 : ∀ f5 : Int, tmW kX11_term 7 0 0 42 [some (tR 0), some (tI s), some (tI p), some (tI q), some (tI 1), some (tI f5), none, none, none] [] (S, I, L) (CPost S I (m + 1) (tI (-2, aRf A 0).1) (-2, aRf A 0).2) := by
          intro f5
          refine wa_iload dX11_term_42 rfl ?_
          refine wa_if_eq 61 dX11_term_44 (by decide) (by exact ⟨by omega, by omega⟩) (fun c_44 => ?_) (fun c_44 => ?_)
          · omega
          · refine wa_aload_n dX11_term_47 rfl ?_
            refine wt_getR dX11_term_48 FX11_10 (by assumption) (by assumption) ?_
            refine wt_getR dX11_term_51 FX11_32 (by assumption) (by assumption) ?_
            refine wa_iload_n dX11_term_54 rfl ?_
            refine wa_callVf (ci := 8) dX11_term_55 KX8_has LX11_92 ⟨_, _, rfl, by decide⟩ o2 (k1) (by decide) rfl rfl (Nat.le_of_ble_eq_true rfl) rfl rfl ?_
            refine wa_if_eq 80 dX11_term_58 (by decide) (by exact ⟨by omega, by omega⟩) (fun c_58 => ?_) (fun c_58 => ?_)
            · refine wa_aload_n dX11_term_80 rfl ?_
              refine wa_bipush dX11_term_81 rfl ?_
              refine wa_callV (ci := 11) dX11_term_83 KX11_refuse LX11_88 ⟨_, _, rfl, by decide⟩ o0 (hrf) (by decide) rfl (Nat.le_of_ble_eq_true rfl) rfl rfl (fun r h' hq => ?_)
              obtain ⟨rfl, hq⟩ := hq
              refine wa_ireturn dX11_term_86 rfl ?_
              exact ⟨rfl, hq⟩
            · omega
        refine wa_iload_n dX11_term_0 rfl ?_
        refine wa_if_lt 10 dX11_term_1 (by decide) (by first | exact hs | exact ⟨by omega, by omega⟩) (fun c_1 => ?_) (fun c_1 => ?_)
        · omega
        · refine wa_iload_n dX11_term_4 rfl ?_
          refine wa_bipush dX11_term_5 rfl ?_
          refine wa_icmp_le 17 dX11_term_7 (by decide) (by first | exact hs | exact ⟨by omega, by omega⟩) (by first | exact hs | exact ⟨by omega, by omega⟩) (fun c_7 => ?_) (fun c_7 => ?_)
          · refine wa_iload_n dX11_term_17 rfl ?_
            refine wa_iconst dX11_term_18 ?_
            refine wa_icmp_lt 26 dX11_term_19 (by decide) (by first | exact hs | exact ⟨by omega, by omega⟩) (by first | exact hs | exact ⟨by omega, by omega⟩) (fun c_19 => ?_) (fun c_19 => ?_)
            · omega
            · refine wa_iconst dX11_term_22 ?_
              refine wa_goto 27 dX11_term_23 (by decide) ?_
              refine wa_istore dX11_term_27 (by decide) ?_
              refine wa_iload_n dX11_term_29 rfl ?_
              refine wa_bipush dX11_term_30 rfl ?_
              refine wa_icmp_ne 39 dX11_term_32 (by decide) (by first | exact hs | exact ⟨by omega, by omega⟩) (by first | exact hs | exact ⟨by omega, by omega⟩) (fun c_32 => ?_) (fun c_32 => ?_)
              · refine wa_iconst dX11_term_39 ?_
                refine wa_istore dX11_term_40 (by decide) ?_
                exact at44 _
              · refine wa_iconst dX11_term_35 ?_
                refine wa_goto 40 dX11_term_36 (by decide) ?_
                refine wa_istore dX11_term_40 (by decide) ?_
                exact at44 _
          · omega
  · rw [bad (fun z => c1 z.1)]
    refine wa_iload_n dX11_term_0 rfl ?_
    refine wa_if_lt 10 dX11_term_1 (by decide) (by first | exact hs | exact ⟨by omega, by omega⟩) (fun c_1 => ?_) (fun c_1 => ?_)
    · refine wa_aload_n dX11_term_10 rfl ?_
      refine wa_bipush dX11_term_11 rfl ?_
      refine wa_callV (ci := 11) dX11_term_13 KX11_refuse LX11_88 ⟨_, _, rfl, by decide⟩ o0 (hrf) (by decide) rfl (Nat.le_of_ble_eq_true rfl) rfl rfl (fun r h' hq => ?_)
      obtain ⟨rfl, hq⟩ := hq
      refine wa_ireturn dX11_term_16 rfl ?_
      exact ⟨rfl, hq⟩
    · refine wa_iload_n dX11_term_4 rfl ?_
      refine wa_bipush dX11_term_5 rfl ?_
      refine wa_icmp_le 17 dX11_term_7 (by decide) (by first | exact hs | exact ⟨by omega, by omega⟩) (by first | exact hs | exact ⟨by omega, by omega⟩) (fun c_7 => ?_) (fun c_7 => ?_)
      · exfalso; omega
      · refine wa_aload_n dX11_term_10 rfl ?_
        refine wa_bipush dX11_term_11 rfl ?_
        refine wa_callV (ci := 11) dX11_term_13 KX11_refuse LX11_88 ⟨_, _, rfl, by decide⟩ o0 (hrf) (by decide) rfl (Nat.le_of_ble_eq_true rfl) rfl rfl (fun r h' hq => ?_)
        obtain ⟨rfl, hq⟩ := hq
        refine wa_ireturn dX11_term_16 rfl ?_
        exact ⟨rfl, hq⟩
end S84
