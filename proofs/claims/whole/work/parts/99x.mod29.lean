/-! ===== 99x: the reference: goesRound ===== -/
/-- what goesRound leaves -/
def GRF (I J : Nat → Nat → Int) : Prop := (∀ a, (a < 168 ∨ (170 ≤ a ∧ a ≤ 172) ∨ (174 ≤ a ∧ a ≤ 178) ∨ a = 181 ∨ 190 ≤ a) → J a = I a) ∧ (∀ k, k ≠ 20 → k ≠ 31 → k ≠ 32 → J 168 k = I 168 k) ∧ ∀ k, (k = 1 ∨ 252 ≤ k) → J 169 k = I 169 k
set_option maxRecDepth 20000 in
theorem GRF.cf {I J : Nat → Nat → Int} (h : GRF I J) : CFr I J := fun a ha => h.1 a (by omega)
set_option maxRecDepth 20000 in
theorem GRF.trans' {I J K : Nat → Nat → Int} (h : GRF I J) (g : GRF J K) : GRF I K := ⟨fun a ha => (g.1 a ha).trans (h.1 a ha), fun k k1 k2 k3 => (g.2.1 k k1 k2 k3).trans (h.2.1 k k1 k2 k3), fun k hk => (g.2.2 k hk).trans (h.2.2 k hk)⟩
set_option maxRecDepth 20000 in
theorem DF.gr {I J : Nat → Nat → Int} (h : DF I J) : GRF I J := ⟨fun a ha => h.1 a (by omega) (by omega) (by omega) (by omega) (by omega) (by omega), h.2.1, h.2.2⟩
/-- between two doesAll -/
def GS (I J : Nat → Nat → Int) (n0 : Nat) (X : TS) (C : Nat → Int) (B : Int) : Prop := XOK X ∧ n0 ≤ X.1 ∧ MT J X ∧ DF I J ∧ ∀ j, j < 5 → J 173 j = C j ∧ 0 ≤ C j ∧ C j ≤ B
section S99x
variable {S : tmS} {I : Nat → Nat → Int} {L : Nat → Nat → Int64}
/-- what the order's loops ask -/
def GQ (I : Nat → Nat → Int) (X0 : TS) (rl : RuL) (lim od : Int) : Prop := rl.length ≤ 6 ∧ RlOK rl ∧ RlT rl ∧ (∀ r, r < rl.length → FM I r (fnd6 X0 (rlL rl r) (r : Int)) ∧ ∀ e ∈ fnd6 X0 (rlL rl r) (r : Int), FGd X0.1 (rlL rl r) (r : Int) e) ∧ MRl (I 169) rl ∧ I 172 1 = lim ∧ (0 ≤ lim ∧ lim ≤ 9) ∧ I 172 0 = od ∧ (0 ≤ od ∧ od ≤ 3)
set_option maxRecDepth 20000 in
theorem rP_lt {od : Int} {n r : Nat} (h : r < n) : rP od n r < n := by unfold rP; split <;> omega
set_option maxRecDepth 20000 in
theorem gr_in (hL : LX S) {X0 : TS} {rl : RuL} {lim od : Int} (hq : GQ I X0 rl lim od) {t : Nat} (ht : t ≤ 50) (tm : Nat) (Q : Option tmV → tmH → Prop) : ∀ (j r : Nat) (J : Nat → Nat → Int) (X : TS) (C : Nat → Int) (u B : Int), r + j = rl.length → GS I J X0.1 X C B → B + 50 * (((List.range' r j).flatMap (rfL X0 rl lim od t)).length : Int) ≤ 90000 →
    (∀ J' : Nat → Nat → Int, GS I J' X0.1 (runX rl ((List.range' r j).flatMap (rfL X0 rl lim od t)) X C u).1 (runX rl ((List.range' r j).flatMap (rfL X0 rl lim od t)) X C u).2.1 (B + 50 * (((List.range' r j).flatMap (rfL X0 rl lim od t)).length : Int)) → tmW kX12_goesRound 8 0 0 224 [some (tR 168), some (tI rl.length), some (tI (runX rl ((List.range' r j).flatMap (rfL X0 rl lim od t)) X C u).2.2), some (tI tm), some (tI t), some (tI rl.length)] [] (S, J', L) Q) →
    tmW kX12_goesRound 8 0 0 152 [some (tR 168), some (tI rl.length), some (tI u), some (tI tm), some (tI t), some (tI r)] [] (S, J, L) Q := by
  intro j
  have o168 := oX168 hL
  have r168_0 := rX168_0 hL
  have r168_1 := rX168_1 hL
  have r168_3 := rX168_3 hL
  have r168_4 := rX168_4 hL
  have r168_5 := rX168_5 hL
  have r168_6 := rX168_6 hL
  have r168_7 := rX168_7 hL
  have r168_8 := rX168_8 hL
  have r168_11 := rX168_11 hL
  have r168_13 := rX168_13 hL
  have r168_17 := rX168_17 hL
  have r168_18 := rX168_18 hL
  have r168_19 := rX168_19 hL
  have r168_21 := rX168_21 hL
  have r168_22 := rX168_22 hL
  have r168_23 := rX168_23 hL
  have r168_24 := rX168_24 hL
  have r168_25 := rX168_25 hL
  have r168_26 := rX168_26 hL
  have r168_27 := rX168_27 hL
  have r168_28 := rX168_28 hL
  have r168_29 := rX168_29 hL
  have r168_30 := rX168_30 hL
  have o172 := oX172 hL
  obtain ⟨h6, hok, htr, hF, hR, hlim, hl9, hod0, hod⟩ := hq
  induction j with
  | zero =>
    intro r J X C u B hr hs hB kk
    obtain rfl : r = rl.length := by omega
    have := kk J (by simpa [runX] using hs)
    simp only [List.range'_zero, List.flatMap_nil, runX] at this
    refine wa_iload dX12_goesRound_152 rfl ?_
    refine wa_iload_n dX12_goesRound_154 rfl ?_
    refine wa_icmp_ge 224 dX12_goesRound_155 (by decide) (by exact ⟨by omega, by omega⟩) (by exact ⟨by omega, by omega⟩) (fun c_155 => ?_) (fun c_155 => ?_)
    · exact this
    · omega
  | succ j ih =>
    intro r J X C u B hr hs hB kk
    have hrl : r < rl.length := by omega
    obtain ⟨s1, s2, s3, s4, s5⟩ := id hs
    have e2 : J 172 = I 172 := s4.1 172 (by decide) (by decide) (by decide) (by decide) (by decide) (by decide)
    have e0 : J 172 0 = od := by rw [e2]; exact hod0
    rw [List.range'_succ, List.flatMap_cons] at hB kk
    rw [List.length_append] at hB kk
    obtain ⟨f1, f2⟩ := hF _ (rP_lt (od := od) hrl)
    have kd := c_mdoesAll (I := J) (L := L) hL h6 hok htr (rP_lt (od := od) hrl) (f1.cg (s4.1 187 (by decide) (by decide) (by decide) (by decide) (by decide) (by decide)) (s4.1 186 (by decide) (by decide) (by decide) (by decide) (by decide) (by decide))) f2 (hR.cg h6 hok (fun x hx _ => s4.2.2 x hx)) (lim := lim) (by rw [e2]; exact hlim) hl9 (g := gP od t) (p := pP od t) (by unfold gP; split <;> omega) (by unfold pP; split <;> omega) s1 s2 s3 s5 (by
      have : ((fnd6 X0 (rlL rl (rP od rl.length r)) ((rP od rl.length r : Nat) : Int)).filter (isP lim (gP od t) (pP od t))).length = (rfL X0 rl lim od t r).length := rfl
      omega)
    have kd : tmC yX12_doesAll kX12_doesAll 7 0 0 [tR 168, tI ((rP od rl.length r : Nat) : Int), tI (gP od t), tI (pP od t)] (S, J, L) (DaPost S J L rl (rfL X0 rl lim od t r) X C 0) := kd
    have ad := runX_add (rl := rl) (rfL X0 rl lim od t r) X C u 0
    rw [Int.add_zero] at ad
    have hE : ∀ e ∈ rfL X0 rl lim od t r, EG X.1 rl e := fun e he => by
      unfold rfL at he
      obtain ⟨a, b⟩ := List.mem_filter.mp he
      exact ((f2 e a).eg hok (rP_lt hrl) (by have := (isP_iff.mp b).1; omega)).mono s2
    have rc := runX_C (rl := rl) hok (rfL X0 rl lim od t r) X C u B s1 hE (fun j hj => (s5 j hj).2)
    have call : tmW kX12_goesRound 8 0 0 213 [some (tR 168), some (tI rl.length), some (tI u), some (tI tm), some (tI t), some (tI r)] [tI (pP od t), tI (gP od t), tI ((rP od rl.length r : Nat) : Int), tR 168, tI u] (S, J, L) Q := by
      have nx : ∀ K : Nat → Nat → Int, MT K (runX rl (rfL X0 rl lim od t r) X C u).1 → (∀ j, j < 5 → K 173 j = (runX rl (rfL X0 rl lim od t r) X C u).2.1 j) → DF J K → tmW kX12_goesRound 8 0 0 152 [some (tR 168), some (tI rl.length), some (tI (runX rl (rfL X0 rl lim od t r) X C u).2.2), some (tI tm), some (tI t), some (tI ((r + 1 : Nat) : Int))] [] (S, K, L) Q := fun K m1 m2 m3 => by
        refine ih (r + 1) K _ _ _ (B + 50 * ((rfL X0 rl lim od t r).length : Int)) (by omega) ⟨rc.2.1, Nat.le_trans s2 rc.2.2, m1, s4.trans' m3, fun j hj => ⟨m2 j hj, rc.1 j hj⟩⟩ (by omega) (fun J' hJ' => ?_)
        rw [← runX_app] at hJ' ⊢
        refine kk J' ?_
        have eb : B + 50 * ((rfL X0 rl lim od t r).length : Int) + 50 * (((List.range' (r + 1) j).flatMap (rfL X0 rl lim od t)).length : Int) = B + 50 * (((rfL X0 rl lim od t r).length + ((List.range' (r + 1) j).flatMap (rfL X0 rl lim od t)).length : Nat) : Int) := by omega
        rw [← eb]
        exact hJ'
      rw [ad] at nx
      simp only at nx
      refine wa_callV (ci := 12) dX12_goesRound_213 KX12_doesAll LX12_185 ⟨_, _, rfl, by decide⟩ o168 (kd) (by decide) rfl (Nat.le_of_ble_eq_true rfl) rfl rfl (fun r h' hq => ?_)
      obtain ⟨rfl, K, rfl, m1, m2, m3⟩ := hq
      refine wa_iadd dX12_goesRound_216 ?_
      refine wa_istore_n dX12_goesRound_217 (by decide) ?_
      refine wa_iinc dX12_goesRound_218 rfl (by decide) ?_
      refine wa_goto 152 dX12_goesRound_221 (by decide) ?_
      exact nx K m1 m2 m3
    rcases (by omega : od = 0 ∨ od = 1 ∨ od = 2 ∨ od = 3) with rfl | rfl | rfl | rfl
    · rw [rP_n (by decide), gP_n (by decide), pP_n (by decide)] at call
      refine wa_iload dX12_goesRound_152 rfl ?_
      refine wa_iload_n dX12_goesRound_154 rfl ?_
      refine wa_icmp_ge 224 dX12_goesRound_155 (by decide) (by exact ⟨by omega, by omega⟩) (by exact ⟨by omega, by omega⟩) (fun c_155 => ?_) (fun c_155 => ?_)
      · omega
      · refine wa_iload_n dX12_goesRound_158 rfl ?_
        refine wa_aload_n dX12_goesRound_159 rfl ?_
        refine wa_aload_n dX12_goesRound_160 rfl ?_
        refine wt_getR dX12_goesRound_161 FX12_19 (by assumption) (by assumption) ?_
        refine wa_iconst dX12_goesRound_164 ?_
        refine wt_iald 0 dX12_goesRound_165 (by assumption) rfl (by omega) ?_
        try first | rw [e0] | skip
        refine wa_iconst dX12_goesRound_166 ?_
        refine wa_icmp_ne 179 dX12_goesRound_167 (by decide) (by exact ⟨by omega, by omega⟩) (by exact ⟨by omega, by omega⟩) (fun c_167 => ?_) (fun c_167 => ?_)
        · refine wa_iload dX12_goesRound_179 rfl ?_
          refine wa_aload_n dX12_goesRound_181 rfl ?_
          refine wt_getR dX12_goesRound_182 FX12_19 (by assumption) (by assumption) ?_
          refine wa_iconst dX12_goesRound_185 ?_
          refine wt_iald 0 dX12_goesRound_186 (by assumption) rfl (by omega) ?_
          try first | rw [e0] | skip
          refine wa_iconst dX12_goesRound_187 ?_
          refine wa_icmp_ne 196 dX12_goesRound_188 (by decide) (by exact ⟨by omega, by omega⟩) (by exact ⟨by omega, by omega⟩) (fun c_188 => ?_) (fun c_188 => ?_)
          · refine wa_iconst dX12_goesRound_196 ?_
            refine wa_aload_n dX12_goesRound_197 rfl ?_
            refine wt_getR dX12_goesRound_198 FX12_19 (by assumption) (by assumption) ?_
            refine wa_iconst dX12_goesRound_201 ?_
            refine wt_iald 0 dX12_goesRound_202 (by assumption) rfl (by omega) ?_
            try first | rw [e0] | skip
            refine wa_iconst dX12_goesRound_203 ?_
            refine wa_icmp_ne 212 dX12_goesRound_204 (by decide) (by exact ⟨by omega, by omega⟩) (by exact ⟨by omega, by omega⟩) (fun c_204 => ?_) (fun c_204 => ?_)
            · refine wa_iconst dX12_goesRound_212 ?_
              exact call
            · omega
          · omega
        · omega
    · rw [rP_n (by decide), gP_1, pP_n (by decide)] at call
      refine wa_iload dX12_goesRound_152 rfl ?_
      refine wa_iload_n dX12_goesRound_154 rfl ?_
      refine wa_icmp_ge 224 dX12_goesRound_155 (by decide) (by exact ⟨by omega, by omega⟩) (by exact ⟨by omega, by omega⟩) (fun c_155 => ?_) (fun c_155 => ?_)
      · omega
      · refine wa_iload_n dX12_goesRound_158 rfl ?_
        refine wa_aload_n dX12_goesRound_159 rfl ?_
        refine wa_aload_n dX12_goesRound_160 rfl ?_
        refine wt_getR dX12_goesRound_161 FX12_19 (by assumption) (by assumption) ?_
        refine wa_iconst dX12_goesRound_164 ?_
        refine wt_iald 0 dX12_goesRound_165 (by assumption) rfl (by omega) ?_
        try first | rw [e0] | skip
        refine wa_iconst dX12_goesRound_166 ?_
        refine wa_icmp_ne 179 dX12_goesRound_167 (by decide) (by exact ⟨by omega, by omega⟩) (by exact ⟨by omega, by omega⟩) (fun c_167 => ?_) (fun c_167 => ?_)
        · refine wa_iload dX12_goesRound_179 rfl ?_
          refine wa_aload_n dX12_goesRound_181 rfl ?_
          refine wt_getR dX12_goesRound_182 FX12_19 (by assumption) (by assumption) ?_
          refine wa_iconst dX12_goesRound_185 ?_
          refine wt_iald 0 dX12_goesRound_186 (by assumption) rfl (by omega) ?_
          try first | rw [e0] | skip
          refine wa_iconst dX12_goesRound_187 ?_
          refine wa_icmp_ne 196 dX12_goesRound_188 (by decide) (by exact ⟨by omega, by omega⟩) (by exact ⟨by omega, by omega⟩) (fun c_188 => ?_) (fun c_188 => ?_)
          · omega
          · refine wa_iload dX12_goesRound_191 rfl ?_
            refine wa_goto 197 dX12_goesRound_193 (by decide) ?_
            refine wa_aload_n dX12_goesRound_197 rfl ?_
            refine wt_getR dX12_goesRound_198 FX12_19 (by assumption) (by assumption) ?_
            refine wa_iconst dX12_goesRound_201 ?_
            refine wt_iald 0 dX12_goesRound_202 (by assumption) rfl (by omega) ?_
            try first | rw [e0] | skip
            refine wa_iconst dX12_goesRound_203 ?_
            refine wa_icmp_ne 212 dX12_goesRound_204 (by decide) (by exact ⟨by omega, by omega⟩) (by exact ⟨by omega, by omega⟩) (fun c_204 => ?_) (fun c_204 => ?_)
            · refine wa_iconst dX12_goesRound_212 ?_
              exact call
            · omega
        · omega
    · rw [rP_2, gP_n (by decide), pP_n (by decide)] at call
      have er : (rl.length : Int) - 1 - (r : Int) = ((rl.length - 1 - r : Nat) : Int) := by omega
      refine wa_iload dX12_goesRound_152 rfl ?_
      refine wa_iload_n dX12_goesRound_154 rfl ?_
      refine wa_icmp_ge 224 dX12_goesRound_155 (by decide) (by exact ⟨by omega, by omega⟩) (by exact ⟨by omega, by omega⟩) (fun c_155 => ?_) (fun c_155 => ?_)
      · omega
      · refine wa_iload_n dX12_goesRound_158 rfl ?_
        refine wa_aload_n dX12_goesRound_159 rfl ?_
        refine wa_aload_n dX12_goesRound_160 rfl ?_
        refine wt_getR dX12_goesRound_161 FX12_19 (by assumption) (by assumption) ?_
        refine wa_iconst dX12_goesRound_164 ?_
        refine wt_iald 0 dX12_goesRound_165 (by assumption) rfl (by omega) ?_
        try first | rw [e0] | skip
        refine wa_iconst dX12_goesRound_166 ?_
        refine wa_icmp_ne 179 dX12_goesRound_167 (by decide) (by exact ⟨by omega, by omega⟩) (by exact ⟨by omega, by omega⟩) (fun c_167 => ?_) (fun c_167 => ?_)
        · omega
        · refine wa_iload_n dX12_goesRound_170 rfl ?_
          refine wa_iconst dX12_goesRound_171 ?_
          refine wa_isub dX12_goesRound_172 ?_
          refine wa_iload dX12_goesRound_173 rfl ?_
          refine wa_isub dX12_goesRound_175 ?_
          rw [er]
          refine wa_goto 181 dX12_goesRound_176 (by decide) ?_
          refine wa_aload_n dX12_goesRound_181 rfl ?_
          refine wt_getR dX12_goesRound_182 FX12_19 (by assumption) (by assumption) ?_
          refine wa_iconst dX12_goesRound_185 ?_
          refine wt_iald 0 dX12_goesRound_186 (by assumption) rfl (by omega) ?_
          try first | rw [e0] | skip
          refine wa_iconst dX12_goesRound_187 ?_
          refine wa_icmp_ne 196 dX12_goesRound_188 (by decide) (by exact ⟨by omega, by omega⟩) (by exact ⟨by omega, by omega⟩) (fun c_188 => ?_) (fun c_188 => ?_)
          · refine wa_iconst dX12_goesRound_196 ?_
            refine wa_aload_n dX12_goesRound_197 rfl ?_
            refine wt_getR dX12_goesRound_198 FX12_19 (by assumption) (by assumption) ?_
            refine wa_iconst dX12_goesRound_201 ?_
            refine wt_iald 0 dX12_goesRound_202 (by assumption) rfl (by omega) ?_
            try first | rw [e0] | skip
            refine wa_iconst dX12_goesRound_203 ?_
            refine wa_icmp_ne 212 dX12_goesRound_204 (by decide) (by exact ⟨by omega, by omega⟩) (by exact ⟨by omega, by omega⟩) (fun c_204 => ?_) (fun c_204 => ?_)
            · refine wa_iconst dX12_goesRound_212 ?_
              exact call
            · omega
          · omega
    · rw [rP_n (by decide), gP_n (by decide), pP_3] at call
      refine wa_iload dX12_goesRound_152 rfl ?_
      refine wa_iload_n dX12_goesRound_154 rfl ?_
      refine wa_icmp_ge 224 dX12_goesRound_155 (by decide) (by exact ⟨by omega, by omega⟩) (by exact ⟨by omega, by omega⟩) (fun c_155 => ?_) (fun c_155 => ?_)
      · omega
      · refine wa_iload_n dX12_goesRound_158 rfl ?_
        refine wa_aload_n dX12_goesRound_159 rfl ?_
        refine wa_aload_n dX12_goesRound_160 rfl ?_
        refine wt_getR dX12_goesRound_161 FX12_19 (by assumption) (by assumption) ?_
        refine wa_iconst dX12_goesRound_164 ?_
        refine wt_iald 0 dX12_goesRound_165 (by assumption) rfl (by omega) ?_
        try first | rw [e0] | skip
        refine wa_iconst dX12_goesRound_166 ?_
        refine wa_icmp_ne 179 dX12_goesRound_167 (by decide) (by exact ⟨by omega, by omega⟩) (by exact ⟨by omega, by omega⟩) (fun c_167 => ?_) (fun c_167 => ?_)
        · refine wa_iload dX12_goesRound_179 rfl ?_
          refine wa_aload_n dX12_goesRound_181 rfl ?_
          refine wt_getR dX12_goesRound_182 FX12_19 (by assumption) (by assumption) ?_
          refine wa_iconst dX12_goesRound_185 ?_
          refine wt_iald 0 dX12_goesRound_186 (by assumption) rfl (by omega) ?_
          try first | rw [e0] | skip
          refine wa_iconst dX12_goesRound_187 ?_
          refine wa_icmp_ne 196 dX12_goesRound_188 (by decide) (by exact ⟨by omega, by omega⟩) (by exact ⟨by omega, by omega⟩) (fun c_188 => ?_) (fun c_188 => ?_)
          · refine wa_iconst dX12_goesRound_196 ?_
            refine wa_aload_n dX12_goesRound_197 rfl ?_
            refine wt_getR dX12_goesRound_198 FX12_19 (by assumption) (by assumption) ?_
            refine wa_iconst dX12_goesRound_201 ?_
            refine wt_iald 0 dX12_goesRound_202 (by assumption) rfl (by omega) ?_
            try first | rw [e0] | skip
            refine wa_iconst dX12_goesRound_203 ?_
            refine wa_icmp_ne 212 dX12_goesRound_204 (by decide) (by exact ⟨by omega, by omega⟩) (by exact ⟨by omega, by omega⟩) (fun c_204 => ?_) (fun c_204 => ?_)
            · omega
            · refine wa_iload dX12_goesRound_207 rfl ?_
              refine wa_goto 213 dX12_goesRound_209 (by decide) ?_
              exact call
          · omega
        · omega
abbrev GrPost (S : tmS) (I : Nat → Nat → Int) (L : Nat → Nat → Int64) (R : TS × (Nat → Int) × Int) : Option tmV → tmH → Prop := fun q h' => q = some (tI R.2.2) ∧ ∃ I', h' = (S, I', L) ∧ MT I' R.1 ∧ (∀ j, j < 5 → I' 173 j = R.2.1 j) ∧ GRF I I'
set_option maxRecDepth 20000 in
theorem gr_out (hL : LX S) {X0 : TS} {rl : RuL} {lim od : Int} (hq : GQ I X0 rl lim od) {tm : Nat} (htm : tm ≤ 50) : ∀ (j t : Nat) (J : Nat → Nat → Int) (X : TS) (C : Nat → Int) (u B : Int) (a5 : Option tmV), t + j = tm → GS I J X0.1 X C B → B + 50 * (((List.range' t j).flatMap (fun t => (List.range' 0 rl.length).flatMap (rfL X0 rl lim od t))).length : Int) ≤ 90000 →
    tmW kX12_goesRound 8 0 0 143 [some (tR 168), some (tI rl.length), some (tI u), some (tI tm), some (tI t), a5] [] (S, J, L) (GrPost S I L (runX rl ((List.range' t j).flatMap (fun t => (List.range' 0 rl.length).flatMap (rfL X0 rl lim od t))) X C u)) := by
  intro j
  induction j with
  | zero =>
    intro t J X C u B a5 ht hs hB
    obtain ⟨s1, s2, s3, s4, s5⟩ := hs
    simp only [List.range'_zero, List.flatMap_nil, runX]
    refine wa_iload dX12_goesRound_143 rfl ?_
    refine wa_iload_n dX12_goesRound_145 rfl ?_
    refine wa_icmp_ge 230 dX12_goesRound_146 (by decide) (by exact ⟨by omega, by omega⟩) (by exact ⟨by omega, by omega⟩) (fun c_146 => ?_) (fun c_146 => ?_)
    · refine wa_iload_n dX12_goesRound_230 rfl ?_
      refine wa_ireturn dX12_goesRound_231 rfl ?_
      exact ⟨rfl, J, rfl, s3, fun j hj => (s5 j hj).1, s4.gr⟩
    · omega
  | succ j ih =>
    intro t J X C u B a5 ht hs hB
    rw [List.range'_succ, List.flatMap_cons] at hB ⊢
    rw [List.length_append] at hB
    rw [runX_app]
    have gi := gr_in (I := I) (L := L) hL hq (t := t) (by omega) tm (GrPost S I L (runX rl ((List.range' (t + 1) j).flatMap (fun t => (List.range' 0 rl.length).flatMap (rfL X0 rl lim od t))) (runX rl ((List.range' 0 rl.length).flatMap (rfL X0 rl lim od t)) X C u).1 (runX rl ((List.range' 0 rl.length).flatMap (rfL X0 rl lim od t)) X C u).2.1 (runX rl ((List.range' 0 rl.length).flatMap (rfL X0 rl lim od t)) X C u).2.2)) rl.length 0 J X C u B (by omega) hs (by omega) (fun J' hJ' => by
      have nx := ih (t + 1) J' _ _ (runX rl ((List.range' 0 rl.length).flatMap (rfL X0 rl lim od t)) X C u).2.2 _ (some (tI rl.length)) (by omega) hJ' (by omega)
      refine wa_iinc dX12_goesRound_224 rfl (by decide) ?_
      refine wa_goto 143 dX12_goesRound_227 (by decide) ?_
      exact nx
      )
    refine wa_iload dX12_goesRound_143 rfl ?_
    refine wa_iload_n dX12_goesRound_145 rfl ?_
    refine wa_icmp_ge 230 dX12_goesRound_146 (by decide) (by exact ⟨by omega, by omega⟩) (by exact ⟨by omega, by omega⟩) (fun c_146 => ?_) (fun c_146 => ?_)
    · omega
    · refine wa_iconst dX12_goesRound_149 ?_
      refine wa_istore dX12_goesRound_150 (by decide) ?_
      exact gi
set_option maxRecDepth 20000 in
theorem gr_late (hL : LX S) {r : Nat} (hr : r < 6) {T : List E6} {lim : Int} (hT : ∀ e ∈ T, 1 ≤ e.2.2.2.2.2 ∧ e.2.2.2.2.2 ≤ 10) (hl9 : 0 ≤ lim ∧ lim ≤ 9) {nr : Nat} (a4 a5 : Option tmV) (Q : Option tmV → tmH → Prop) : ∀ (j k c : Nat) (J : Nat → Nat → Int), k + j = T.length → FM J r T → J 172 1 = lim → J 173 1 = (c : Int) → c + j ≤ 100000 →
    (∀ J' : Nat → Nat → Int, (∀ a, a ≠ 173 → J' a = J a) → (∀ x, x ≠ 1 → J' 173 x = J 173 x) → J' 173 1 = ((c + ((T.drop k).filter (fun e => !notLate lim e)).length : Nat) : Int) → tmW kX12_goesRound 8 0 0 100 [some (tR 168), some (tI nr), some (tI r), some (tI T.length), a4, a5] [] (S, J', L) Q) →
    tmW kX12_goesRound 8 0 0 45 [some (tR 168), some (tI nr), some (tI r), some (tI k), a4, a5] [] (S, J, L) Q := by
  intro j
  have o168 := oX168 hL
  have r168_0 := rX168_0 hL
  have r168_1 := rX168_1 hL
  have r168_3 := rX168_3 hL
  have r168_4 := rX168_4 hL
  have r168_5 := rX168_5 hL
  have r168_6 := rX168_6 hL
  have r168_7 := rX168_7 hL
  have r168_8 := rX168_8 hL
  have r168_11 := rX168_11 hL
  have r168_13 := rX168_13 hL
  have r168_17 := rX168_17 hL
  have r168_18 := rX168_18 hL
  have r168_19 := rX168_19 hL
  have r168_21 := rX168_21 hL
  have r168_22 := rX168_22 hL
  have r168_23 := rX168_23 hL
  have r168_24 := rX168_24 hL
  have r168_25 := rX168_25 hL
  have r168_26 := rX168_26 hL
  have r168_27 := rX168_27 hL
  have r168_28 := rX168_28 hL
  have r168_29 := rX168_29 hL
  have r168_30 := rX168_30 hL
  have o172 := oX172 hL
  have o173 := oX173 hL
  have o186 := oX186 hL
  have o187 := oX187 hL
  induction j with
  | zero =>
    intro k c J hk hF hlim hc hcb kk
    obtain rfl : k = T.length := by omega
    have := kk J (fun _ _ => rfl) (fun _ _ => rfl) (by rw [List.drop_length]; exact hc)
    have t1 := hF.1
    have t2 := hF.2.1
    refine wa_iload_n dX12_goesRound_45 rfl ?_
    refine wa_aload_n dX12_goesRound_46 rfl ?_
    refine wt_getR dX12_goesRound_47 FX12_64 (by assumption) (by assumption) ?_
    refine wa_iload_n dX12_goesRound_50 rfl ?_
    refine wt_iald r dX12_goesRound_51 (by assumption) rfl (by omega) ?_
    try first | rw [t1] | skip
    refine wa_icmp_ge 100 dX12_goesRound_52 (by decide) (by exact ⟨by omega, by omega⟩) (by exact ⟨by omega, by omega⟩) (fun c_52 => ?_) (fun c_52 => ?_)
    · exact this
    · omega
  | succ j ih =>
    intro k c J hk hF hlim hc hcb kk
    obtain ⟨t1, t2, t3⟩ := id hF
    have ck : k < T.length := by omega
    have ex := List.getElem?_eq_getElem ck
    have t4 := (t3 k _ ex).2.2.2.2
    have g := hT T[k] (List.getElem_mem ck)
    have len := List.length_filter_le (fun e => !notLate lim e) T
    rw [List.drop_eq_getElem_cons ck] at kk
    have fr : ∀ v : Int, FM (va_up J 173 (va_up (J 173) 1 v)) r T := fun v => hF.cg (vup_n (by decide)) (vup_n (by decide))
    by_cases p : notLate lim T[k] = true
    · rw [List.filter_cons_of_neg (by rw [p]; decide)] at kk
      have p2 : T[k].2.2.2.2.2 ≤ lim := by unfold notLate at p; exact of_decide_eq_true p
      have es : va_up J 173 (va_up (J 173) 1 ((c : Int) + 0)) = J := by rw [show (c : Int) + 0 = J 173 1 by omega, vup_self, vup_self]
      have nx := ih (k + 1) c J (by omega) hF hlim hc (by omega) kk
      refine wa_iload_n dX12_goesRound_45 rfl ?_
      refine wa_aload_n dX12_goesRound_46 rfl ?_
      refine wt_getR dX12_goesRound_47 FX12_64 (by assumption) (by assumption) ?_
      refine wa_iload_n dX12_goesRound_50 rfl ?_
      refine wt_iald r dX12_goesRound_51 (by assumption) rfl (by omega) ?_
      try first | rw [t1] | rw [hc] | rw [t4] | rw [hlim] | skip
      refine wa_icmp_ge 100 dX12_goesRound_52 (by decide) (by exact ⟨by omega, by omega⟩) (by exact ⟨by omega, by omega⟩) (fun c_52 => ?_) (fun c_52 => ?_)
      · omega
      · refine wa_aload_n dX12_goesRound_55 rfl ?_
        refine wt_getR dX12_goesRound_56 FX12_22 (by assumption) (by assumption) ?_
        refine wa_iconst dX12_goesRound_59 ?_
        refine wa_dup2 dX12_goesRound_60 rfl rfl ?_
        refine wt_iald 1 dX12_goesRound_61 (by assumption) rfl (by omega) ?_
        try first | rw [t1] | rw [hc] | rw [t4] | rw [hlim] | skip
        refine wa_aload_n dX12_goesRound_62 rfl ?_
        refine wt_getR dX12_goesRound_63 FX12_61 (by assumption) (by assumption) ?_
        refine wa_sipush dX12_goesRound_66 rfl ?_
        refine wa_iload_n dX12_goesRound_69 rfl ?_
        refine wa_imul dX12_goesRound_70 ?_
        refine wa_iconst dX12_goesRound_71 ?_
        refine wa_iload_n dX12_goesRound_72 rfl ?_
        refine wa_imul dX12_goesRound_73 ?_
        refine wa_iadd dX12_goesRound_74 ?_
        refine wa_iconst dX12_goesRound_75 ?_
        refine wa_iadd dX12_goesRound_76 ?_
        refine wt_iald (1000 * r + 5 * k + 4) dX12_goesRound_77 (by assumption) (by omega) (by omega) ?_
        try first | rw [t1] | rw [hc] | rw [t4] | rw [hlim] | skip
        refine wa_aload_n dX12_goesRound_78 rfl ?_
        refine wt_getR dX12_goesRound_79 FX12_19 (by assumption) (by assumption) ?_
        refine wa_iconst dX12_goesRound_82 ?_
        refine wt_iald 1 dX12_goesRound_83 (by assumption) rfl (by omega) ?_
        try first | rw [t1] | rw [hc] | rw [t4] | rw [hlim] | skip
        refine wa_icmp_le 91 dX12_goesRound_84 (by decide) (by exact ⟨by omega, by omega⟩) (by exact ⟨by omega, by omega⟩) (fun c_84 => ?_) (fun c_84 => ?_)
        · refine wa_iconst dX12_goesRound_91 ?_
          refine wa_iadd dX12_goesRound_92 ?_
          refine wt_iast 1 dX12_goesRound_93 (by assumption) rfl (by omega) (by exact ⟨by omega, by omega⟩) ?_
          rw [es]
          refine wa_iinc dX12_goesRound_94 rfl (by decide) ?_
          refine wa_goto 45 dX12_goesRound_97 (by decide) ?_
          exact nx
        · omega
    · rw [List.filter_cons_of_pos (by cases z : notLate lim T[k] with
        | true => exact absurd z p
        | false => rfl), List.length_cons] at kk
      have p2 : ¬ T[k].2.2.2.2.2 ≤ lim := fun q => p (by unfold notLate; exact decide_eq_true q)
      have nx := ih (k + 1) (c + 1) (va_up J 173 (va_up (J 173) 1 ((c : Int) + 1))) (by omega) (fr _) (by rw [vup_n (by decide)]; exact hlim) (by rw [vup_s, vup_s]; omega) (by omega) (fun J' h1 h2 h3 => kk J' (fun a ha => by rw [h1 a ha, vup_n ha]) (fun x hx => by rw [h2 x hx, vup_s, vup_n hx]) (by rw [h3]; congr 1; omega))
      refine wa_iload_n dX12_goesRound_45 rfl ?_
      refine wa_aload_n dX12_goesRound_46 rfl ?_
      refine wt_getR dX12_goesRound_47 FX12_64 (by assumption) (by assumption) ?_
      refine wa_iload_n dX12_goesRound_50 rfl ?_
      refine wt_iald r dX12_goesRound_51 (by assumption) rfl (by omega) ?_
      try first | rw [t1] | rw [hc] | rw [t4] | rw [hlim] | skip
      refine wa_icmp_ge 100 dX12_goesRound_52 (by decide) (by exact ⟨by omega, by omega⟩) (by exact ⟨by omega, by omega⟩) (fun c_52 => ?_) (fun c_52 => ?_)
      · omega
      · refine wa_aload_n dX12_goesRound_55 rfl ?_
        refine wt_getR dX12_goesRound_56 FX12_22 (by assumption) (by assumption) ?_
        refine wa_iconst dX12_goesRound_59 ?_
        refine wa_dup2 dX12_goesRound_60 rfl rfl ?_
        refine wt_iald 1 dX12_goesRound_61 (by assumption) rfl (by omega) ?_
        try first | rw [t1] | rw [hc] | rw [t4] | rw [hlim] | skip
        refine wa_aload_n dX12_goesRound_62 rfl ?_
        refine wt_getR dX12_goesRound_63 FX12_61 (by assumption) (by assumption) ?_
        refine wa_sipush dX12_goesRound_66 rfl ?_
        refine wa_iload_n dX12_goesRound_69 rfl ?_
        refine wa_imul dX12_goesRound_70 ?_
        refine wa_iconst dX12_goesRound_71 ?_
        refine wa_iload_n dX12_goesRound_72 rfl ?_
        refine wa_imul dX12_goesRound_73 ?_
        refine wa_iadd dX12_goesRound_74 ?_
        refine wa_iconst dX12_goesRound_75 ?_
        refine wa_iadd dX12_goesRound_76 ?_
        refine wt_iald (1000 * r + 5 * k + 4) dX12_goesRound_77 (by assumption) (by omega) (by omega) ?_
        try first | rw [t1] | rw [hc] | rw [t4] | rw [hlim] | skip
        refine wa_aload_n dX12_goesRound_78 rfl ?_
        refine wt_getR dX12_goesRound_79 FX12_19 (by assumption) (by assumption) ?_
        refine wa_iconst dX12_goesRound_82 ?_
        refine wt_iald 1 dX12_goesRound_83 (by assumption) rfl (by omega) ?_
        try first | rw [t1] | rw [hc] | rw [t4] | rw [hlim] | skip
        refine wa_icmp_le 91 dX12_goesRound_84 (by decide) (by exact ⟨by omega, by omega⟩) (by exact ⟨by omega, by omega⟩) (fun c_84 => ?_) (fun c_84 => ?_)
        · omega
        · refine wa_iconst dX12_goesRound_87 ?_
          refine wa_goto 92 dX12_goesRound_88 (by decide) ?_
          refine wa_iadd dX12_goesRound_92 ?_
          refine wt_iast 1 dX12_goesRound_93 (by assumption) rfl (by omega) (by exact ⟨by omega, by omega⟩) ?_
          refine wa_iinc dX12_goesRound_94 rfl (by decide) ?_
          refine wa_goto 45 dX12_goesRound_97 (by decide) ?_
          exact nx
end S99x
