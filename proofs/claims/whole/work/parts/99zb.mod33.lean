/-! ===== 99zb: the reference: side ===== -/
set_option maxRecDepth 20000 in
theorem sh8 : ∀ m, m < 8 → ∀ l, l < 3 → Int32.ofInt ((m : Nat) : Int) >>> (Int32.ofInt ((l : Nat) : Int) &&& 31) = Int32.ofInt ((m >>> l : Nat) : Int) := by decide
set_option maxRecDepth 20000 in
theorem an8 : ∀ m, m < 8 → ∀ l, l < 3 → Int32.ofInt ((m >>> l : Nat) : Int) &&& Int32.ofInt 1 = Int32.ofInt (if m.testBit l then 1 else 0) := by decide
set_option maxRecDepth 20000 in
theorem letW_snoc (w : List Int) (s : Int) : letW (w ++ [s]) = if 7 ≤ s then letW w ||| 1 <<< (s - 7).toNat else letW w := by
  unfold letW
  rw [List.foldl_append]
  rfl
/-- what is yet needed, as the reference holds it -/
def NdW (I : Nat → Nat → Int) : List Nat → Prop
  | [] => True
  | m :: r => I 181 r.length = (m : Int) ∧ NdW I r
set_option maxRecDepth 20000 in
theorem NdW.cg {I J : Nat → Nat → Int} : ∀ {nd : List Nat}, NdW I nd → (∀ i, i < nd.length → J 181 i = I 181 i) → NdW J nd := by
  intro nd
  induction nd with
  | nil => intro _ _; trivial
  | cons m r ih =>
    intro h e
    exact ⟨by rw [e r.length (by simp)]; exact h.1, ih h.2 (fun i hi => e i (by simp; omega))⟩
def N12 (nd : List Nat) : Prop := ∀ m ∈ nd, m = 1 ∨ m = 2
set_option maxRecDepth 20000 in
theorem clW_nd {b : Nat → Int} {n : Nat} : ∀ (nd : List Nat) (p : Nat), N12 nd → N12 (clW b n nd p).2.1 ∧ (clW b n nd p).2.1.length ≤ nd.length := by
  intro nd
  induction nd with
  | nil => intro p h; exact ⟨h, Nat.le_refl _⟩
  | cons m r ih =>
    intro p h
    have hr : N12 r := fun x hx => h x (List.mem_cons_of_mem _ hx)
    simp only [clW]
    by_cases c : m = 2
    · rw [if_pos c]
      refine ⟨fun x hx => ?_, by simp⟩
      rcases List.mem_cons.mp hx with e | e
      · exact Or.inl e
      · exact hr x e
    · rw [if_neg c]
      split
      · have := ih (tkP b n p 41) hr
        exact ⟨this.1, by rw [List.length_cons]; omega⟩
      · exact ⟨h, Nat.le_refl _⟩
set_option maxRecDepth 20000 in
theorem tkP_no {b : Nat → Int} {n p : Nat} {c : Int} (h : ¬ tkB b n p c) : tkP b n p c = skp b n p := by unfold tkP; rw [if_neg h]
set_option maxRecDepth 20000 in
theorem clW_stop {b : Nat → Int} {n : Nat} : ∀ (nd : List Nat) (p : Nat), (clW b n nd p).1 = false → skp b n (clW b n nd p).2.2 = (clW b n nd p).2.2 := by
  intro nd
  induction nd with
  | nil => intro p h; simp [clW] at h
  | cons m r ih =>
    intro p
    simp only [clW]
    by_cases c : m = 2
    · rw [if_pos c]
      intro h
      have h : ¬ tkB b n p 44 := by simpa using h
      show skp b n (tkP b n p 44) = tkP b n p 44
      rw [tkP_no h]; exact skp_id
    · rw [if_neg c]
      by_cases z : tkB b n p 41
      · rw [if_pos z]; exact ih _
      · rw [if_neg z]; intro _
        show skp b n (tkP b n p 41) = tkP b n p 41
        rw [tkP_no z]; exact skp_id
set_option maxRecDepth 20000 in
theorem sdW_stop {b : Nat → Int} {n may : Nat} : ∀ (k : Nat) (nd : List Nat) (w : List Int) (p : Nat), p ≤ n → n + 1 ≤ p + k → (sdW b n may k nd w p).1 = false → skp b n (sdW b n may k nd w p).2.1 = (sdW b n may k nd w p).2.1 := by
  intro k
  induction k with
  | zero => intro nd w p h1 h2; omega
  | succ k ih =>
    intro nd w p h1 h2
    have hb := skp_b (b := b) h1
    simp only [sdW]
    by_cases c1 : sgOf (byt b n (skp b n p)) = -1 ∨ (7 ≤ sgOf (byt b n (skp b n p)) ∧ may.testBit (sgOf (byt b n (skp b n p)) - 7).toNat = false)
    · rw [if_pos c1]; intro _; exact skp_id
    · rw [if_neg c1]
      have hin := sgOf_in (b := b) (n := n) (p := skp b n p) (fun z => c1 (Or.inl z))
      by_cases c2 : 4 ≤ sgOf (byt b n (skp b n p)) ∧ sgOf (byt b n (skp b n p)) ≤ 6
      · rw [if_pos c2]
        by_cases c3 : tkB b n (skp b n p + 1) 40
        · rw [if_pos c3]
          have := tkP_b (b := b) (n := n) (p := skp b n p + 1) (by omega) (c := 40) (by decide)
          exact ih _ _ _ this.2.1 (by omega)
        · rw [if_neg c3]; intro _
          show skp b n (tkP b n (skp b n p + 1) 40) = tkP b n (skp b n p + 1) 40
          rw [tkP_no c3]; exact skp_id
      · rw [if_neg c2]
        have hc := clW_b (b := b) (n := n) nd (skp b n p + 1) (by omega)
        by_cases c3 : (clW b n nd (skp b n p + 1)).1 = false
        · rw [if_pos c3]; intro _; exact clW_stop _ _ c3
        · rw [if_neg c3]
          by_cases c4 : (clW b n nd (skp b n p + 1)).2.1 = []
          · rw [if_pos c4]; intro z; cases z
          · rw [if_neg c4]; exact ih _ _ _ hc.2 (by omega)
/-- what the closing of parts leaves; what the reading of a side leaves -/
def NF (I J : Nat → Nat → Int) : Prop := (∀ a, a ≠ 168 → a ≠ 181 → J a = I a) ∧ ∀ k, k ≠ 10 → J 168 k = I 168 k
def SF (ρ : Nat) (I J : Nat → Nat → Int) : Prop := (∀ a, a ≠ 168 → a ≠ ρ → a ≠ 181 → J a = I a) ∧ ∀ k, k ≠ 10 → k ≠ 15 → k ≠ 16 → J 168 k = I 168 k
set_option maxRecDepth 20000 in
theorem NF.trans' {I J K : Nat → Nat → Int} (h : NF I J) (g : NF J K) : NF I K := ⟨fun a a1 a2 => (g.1 a a1 a2).trans (h.1 a a1 a2), fun k k1 => (g.2 k k1).trans (h.2 k k1)⟩
set_option maxRecDepth 20000 in
theorem SF.trans' {ρ : Nat} {I J K : Nat → Nat → Int} (h : SF ρ I J) (g : SF ρ J K) : SF ρ I K := ⟨fun a a1 a2 a3 => (g.1 a a1 a2 a3).trans (h.1 a a1 a2 a3), fun k k1 k2 k3 => (g.2 k k1 k2 k3).trans (h.2 k k1 k2 k3)⟩
set_option maxRecDepth 20000 in
theorem NF.sf {ρ : Nat} {I J : Nat → Nat → Int} (h : NF I J) : SF ρ I J := ⟨fun a a1 _ a3 => h.1 a a1 a3, fun k k1 _ _ => h.2 k k1⟩
set_option maxRecDepth 20000 in
theorem NF.rfl' {I : Nat → Nat → Int} : NF I I := ⟨fun _ _ _ => rfl, fun _ _ => rfl⟩
set_option maxRecDepth 20000 in
theorem NF.at {I : Nat → Nat → Int} (p : Nat) : NF I (atQ I p) := ⟨fun a a1 _ => atQ_n a1, fun k hk => atQ_k hk⟩
set_option maxRecDepth 20000 in
theorem NF.nd {I : Nat → Nat → Int} (i : Nat) (v : Int) : NF I (va_up I 181 (va_up (I 181) i v)) := ⟨fun a _ a2 => vup_n a2, fun k _ => by rw [vup_n (by decide)]⟩
section S99zb
variable {S : tmS} {L : Nat → Nat → Int64}
set_option maxRecDepth 20000 in
theorem side_cl (hL : LX S) {n : Nat} (hn1 : n ≤ 120) {ρ : Nat} {b : Nat → Int} {may s : Int} (Q : Option tmV → tmH → Prop) : ∀ (nd : List Nat) (p : Nat) (J : Nat → Nat → Int), J 168 9 = (n : Int) → J 176 = b → J 168 10 = (p : Int) → p ≤ n → NdW J nd → N12 nd → nd.length ≤ 120 →
    (∀ J' : Nat → Nat → Int, NF J J' → J' 168 10 = ((clW b n nd p).2.2 : Int) → (clW b n nd p).1 = false → Q (some (tI 0)) (S, J', L)) →
    (∀ J' : Nat → Nat → Int, NF J J' → J' 168 10 = ((clW b n nd p).2.2 : Int) → (clW b n nd p).1 = true → (clW b n nd p).2.1 = [] → Q (some (tI 1)) (S, J', L)) →
    (∀ J' : Nat → Nat → Int, NF J J' → J' 168 10 = ((clW b n nd p).2.2 : Int) → (clW b n nd p).1 = true → (clW b n nd p).2.1 ≠ [] → NdW J' (clW b n nd p).2.1 → tmW kX12_side 4 0 0 12 [some (tR 168), some (tR ρ), some (tI may), some (tI ((clW b n nd p).2.1.length : Nat)), some (tI s), some (tI 1)] [] (S, J', L) Q) →
    tmW kX12_side 4 0 0 149 [some (tR 168), some (tR ρ), some (tI may), some (tI (nd.length : Nat)), some (tI s), some (tI 0)] [] (S, J, L) Q := by
  intro nd
  have o168 := oX168 hL
  have r168_0 := rX168_0 hL
  have r168_1 := rX168_1 hL
  have r168_3 := rX168_3 hL
  have r168_4 := rX168_4 hL
  have r168_5 := rX168_5 hL
  have r168_6 := rX168_6 hL
  have r168_7 := rX168_7 hL
  have r168_8 := rX168_8 hL
  have r168_11 := rX168_11 hL
  have r168_13 := rX168_13 hL
  have r168_17 := rX168_17 hL
  have r168_18 := rX168_18 hL
  have r168_19 := rX168_19 hL
  have r168_21 := rX168_21 hL
  have r168_22 := rX168_22 hL
  have r168_23 := rX168_23 hL
  have r168_24 := rX168_24 hL
  have r168_25 := rX168_25 hL
  have r168_26 := rX168_26 hL
  have r168_27 := rX168_27 hL
  have r168_28 := rX168_28 hL
  have r168_29 := rX168_29 hL
  have r168_30 := rX168_30 hL
  have o181 := oX181 hL
  induction nd with
  | nil =>
    intro p J h9 h176 h10 hp hnd h12 hln kF kT kN
    have := kT J NF.rfl' h10 rfl rfl
    simp only [List.length_nil]
    refine wa_iload_n dX12_side_149 rfl ?_
    refine wa_if_le 225 dX12_side_150 (by decide) (by exact ⟨by omega, by omega⟩) (fun c_150 => ?_) (fun c_150 => ?_)
    · refine wa_iload dX12_side_225 rfl ?_
      refine wa_if_ne 232 dX12_side_227 (by decide) (by exact ⟨by omega, by omega⟩) (fun c_227 => ?_) (fun c_227 => ?_)
      · omega
      · refine wa_iconst dX12_side_230 ?_
        refine wa_zreturn dX12_side_231 rfl (by first | exact Or.inl rfl | exact Or.inr rfl) ?_
        exact this
    · omega
  | cons m r ih =>
    intro p J h9 h176 h10 hp hnd h12 hln kF kT kN
    simp only [List.length_cons] at hln ⊢
    obtain ⟨hs, hr⟩ := hnd
    have h12r : N12 r := fun x hx => h12 x (List.mem_cons_of_mem _ hx)
    have ix : ((r.length + 1 : Nat) : Int) - 1 = ((r.length : Nat) : Int) := by omega
    rcases h12 m List.mem_cons_self with rfl | rfl
    · -- the last part: ')'
      have hs : J 181 r.length = 1 := hs
      generalize hV : va_up J 181 (va_up (J 181) r.length 0) = V
      have nV : NF J V := by rw [← hV]; exact NF.nd _ _
      have v1 : V 181 r.length = 0 := by rw [← hV, vup_s, vup_s]
      have v176 : V 176 = b := by rw [nV.1 176 (by decide) (by decide)]; exact h176
      have ki := c_mis (I := V) (L := L) hL (p := p) (by rw [nV.2 9 (by decide)]; exact h9) hn1 (by rw [← hV, vup_n (by decide)]; exact h10) hp 41 ⟨by decide, by decide⟩
      rw [v176] at ki
      have tb := tkP_b (b := b) (n := n) hp (c := 41) (by decide)
      have ec : clW b n (1 :: r) p = if tkB b n p 41 then clW b n r (tkP b n p 41) else (false, 1 :: r, tkP b n p 41) := by simp only [clW]; rw [if_neg (by decide)]
      have e10 : (1 : Int) - 1 = 0 := by decide
      by_cases z : tkB b n p 41
      · rw [if_pos z] at ki
        rw [ec, if_pos z] at kF kT kN
        have nK : NF J (atQ V (tkP b n p 41)) := nV.trans' (NF.at _)
        have nx := ih (tkP b n p 41) (atQ V (tkP b n p 41)) (by rw [nK.2 9 (by decide)]; exact h9) (by rw [nK.1 176 (by decide) (by decide)]; exact h176) atQ_10 tb.2.1 (hr.cg (fun i hi => by rw [atQ_n (by decide), ← hV, vup_s, vup_n (by omega)])) h12r (by omega) (fun J' j1 j2 j3 => kF J' (nK.trans' j1) j2 j3) (fun J' j1 j2 j3 j4 => kT J' (nK.trans' j1) j2 j3 j4) (fun J' j1 j2 j3 j4 j5 => kN J' (nK.trans' j1) j2 j3 j4 j5)
        refine wa_iload_n dX12_side_149 rfl ?_
        refine wa_if_le 225 dX12_side_150 (by decide) (by exact ⟨by omega, by omega⟩) (fun c_150 => ?_) (fun c_150 => ?_)
        · omega
        · refine wa_iload dX12_side_153 rfl ?_
          refine wa_if_ne 225 dX12_side_155 (by decide) (by exact ⟨by omega, by omega⟩) (fun c_155 => ?_) (fun c_155 => ?_)
          · omega
          · refine wa_aload_n dX12_side_158 rfl ?_
            refine wt_getR dX12_side_159 FX12_46 (by assumption) (by assumption) ?_
            refine wa_iload_n dX12_side_162 rfl ?_
            refine wa_iconst dX12_side_163 ?_
            refine wa_isub dX12_side_164 ?_
            refine wa_dup2 dX12_side_165 rfl rfl ?_
            refine wt_iald r.length dX12_side_166 (by assumption) (by omega) (by omega) ?_
            try first | rw [hs] | rw [v1] | skip
            refine wa_iconst dX12_side_167 ?_
            refine wa_isub dX12_side_168 ?_
            rw [e10]
            refine wt_iast r.length dX12_side_169 (by assumption) (by omega) (by omega) (by exact ⟨by omega, by omega⟩) ?_
            rw [hV]
            refine wa_aload_n dX12_side_170 rfl ?_
            refine wt_getR dX12_side_171 FX12_46 (by assumption) (by assumption) ?_
            refine wa_iload_n dX12_side_174 rfl ?_
            refine wa_iconst dX12_side_175 ?_
            refine wa_isub dX12_side_176 ?_
            refine wt_iald r.length dX12_side_177 (by assumption) (by omega) (by omega) ?_
            try first | rw [hs] | rw [v1] | skip
            refine wa_if_le 185 dX12_side_178 (by decide) (by exact ⟨by omega, by omega⟩) (fun c_178 => ?_) (fun c_178 => ?_)
            · refine wa_iconst dX12_side_185 ?_
              refine wa_istore dX12_side_186 (by decide) ?_
              refine wa_aload_n dX12_side_188 rfl ?_
              refine wa_iload dX12_side_189 rfl ?_
              refine wa_if_eq 199 dX12_side_191 (by decide) (by exact ⟨by omega, by omega⟩) (fun c_191 => ?_) (fun c_191 => ?_)
              · refine wa_bipush dX12_side_199 rfl ?_
                refine wa_callVf (ci := 12) dX12_side_201 KX12_is LX12_213 ⟨_, _, rfl, by decide⟩ o168 (ki) (by decide) rfl rfl (Nat.le_of_ble_eq_true rfl) rfl rfl ?_
                refine wa_if_ne 209 dX12_side_204 (by decide) (by exact ⟨by omega, by omega⟩) (fun c_204 => ?_) (fun c_204 => ?_)
                · refine wa_iload_n dX12_side_209 rfl ?_
                  refine wa_iload dX12_side_210 rfl ?_
                  refine wa_if_eq 219 dX12_side_212 (by decide) (by exact ⟨by omega, by omega⟩) (fun c_212 => ?_) (fun c_212 => ?_)
                  · refine wa_iconst dX12_side_219 ?_
                    refine wa_isub dX12_side_220 ?_
                    rw [ix]
                    refine wa_istore_n dX12_side_221 (by decide) ?_
                    refine wa_goto 149 dX12_side_222 (by decide) ?_
                    exact nx
                  · omega
                · omega
              · omega
            · omega
      · rw [if_neg z] at ki
        rw [ec, if_neg z] at kF
        have := kF (atQ V (tkP b n p 41)) (nV.trans' (NF.at _)) atQ_10 rfl
        refine wa_iload_n dX12_side_149 rfl ?_
        refine wa_if_le 225 dX12_side_150 (by decide) (by exact ⟨by omega, by omega⟩) (fun c_150 => ?_) (fun c_150 => ?_)
        · omega
        · refine wa_iload dX12_side_153 rfl ?_
          refine wa_if_ne 225 dX12_side_155 (by decide) (by exact ⟨by omega, by omega⟩) (fun c_155 => ?_) (fun c_155 => ?_)
          · omega
          · refine wa_aload_n dX12_side_158 rfl ?_
            refine wt_getR dX12_side_159 FX12_46 (by assumption) (by assumption) ?_
            refine wa_iload_n dX12_side_162 rfl ?_
            refine wa_iconst dX12_side_163 ?_
            refine wa_isub dX12_side_164 ?_
            refine wa_dup2 dX12_side_165 rfl rfl ?_
            refine wt_iald r.length dX12_side_166 (by assumption) (by omega) (by omega) ?_
            try first | rw [hs] | rw [v1] | skip
            refine wa_iconst dX12_side_167 ?_
            refine wa_isub dX12_side_168 ?_
            rw [e10]
            refine wt_iast r.length dX12_side_169 (by assumption) (by omega) (by omega) (by exact ⟨by omega, by omega⟩) ?_
            rw [hV]
            refine wa_aload_n dX12_side_170 rfl ?_
            refine wt_getR dX12_side_171 FX12_46 (by assumption) (by assumption) ?_
            refine wa_iload_n dX12_side_174 rfl ?_
            refine wa_iconst dX12_side_175 ?_
            refine wa_isub dX12_side_176 ?_
            refine wt_iald r.length dX12_side_177 (by assumption) (by omega) (by omega) ?_
            try first | rw [hs] | rw [v1] | skip
            refine wa_if_le 185 dX12_side_178 (by decide) (by exact ⟨by omega, by omega⟩) (fun c_178 => ?_) (fun c_178 => ?_)
            · refine wa_iconst dX12_side_185 ?_
              refine wa_istore dX12_side_186 (by decide) ?_
              refine wa_aload_n dX12_side_188 rfl ?_
              refine wa_iload dX12_side_189 rfl ?_
              refine wa_if_eq 199 dX12_side_191 (by decide) (by exact ⟨by omega, by omega⟩) (fun c_191 => ?_) (fun c_191 => ?_)
              · refine wa_bipush dX12_side_199 rfl ?_
                refine wa_callVf (ci := 12) dX12_side_201 KX12_is LX12_213 ⟨_, _, rfl, by decide⟩ o168 (ki) (by decide) rfl rfl (Nat.le_of_ble_eq_true rfl) rfl rfl ?_
                refine wa_if_ne 209 dX12_side_204 (by decide) (by exact ⟨by omega, by omega⟩) (fun c_204 => ?_) (fun c_204 => ?_)
                · omega
                · refine wa_iconst dX12_side_207 ?_
                  refine wa_zreturn dX12_side_208 rfl (by first | exact Or.inl rfl | exact Or.inr rfl) ?_
                  exact this
              · omega
            · omega
    · -- the first of two: ','
      have hs : J 181 r.length = 2 := hs
      generalize hV : va_up J 181 (va_up (J 181) r.length 1) = V
      have nV : NF J V := by rw [← hV]; exact NF.nd _ _
      have v1 : V 181 r.length = 1 := by rw [← hV, vup_s, vup_s]
      have v176 : V 176 = b := by rw [nV.1 176 (by decide) (by decide)]; exact h176
      have ki := c_mis (I := V) (L := L) hL (p := p) (by rw [nV.2 9 (by decide)]; exact h9) hn1 (by rw [← hV, vup_n (by decide)]; exact h10) hp 44 ⟨by decide, by decide⟩
      rw [v176] at ki
      have ec : clW b n (2 :: r) p = (decide (tkB b n p 44), 1 :: r, tkP b n p 44) := rfl
      have e10 : (2 : Int) - 1 = 1 := by decide
      by_cases z : tkB b n p 44
      · rw [if_pos z] at ki
        rw [ec] at kN
        have nx := kN (atQ V (tkP b n p 44)) (nV.trans' (NF.at _)) atQ_10 (decide_eq_true z) (fun y => by cases y) ⟨by rw [atQ_n (by decide)]; exact v1, hr.cg (fun i hi => by rw [atQ_n (by decide), ← hV, vup_s, vup_n (by omega)])⟩
        simp only [List.length_cons] at nx
        have w2 : tmW kX12_side 4 0 0 149 [some (tR 168), some (tR ρ), some (tI may), some (tI ((r.length + 1 : Nat) : Int)), some (tI s), some (tI 1)] [] (S, atQ V (tkP b n p 44), L) Q := by
          refine wa_iload_n dX12_side_149 rfl ?_
          refine wa_if_le 225 dX12_side_150 (by decide) (by exact ⟨by omega, by omega⟩) (fun c_150 => ?_) (fun c_150 => ?_)
          · omega
          · refine wa_iload dX12_side_153 rfl ?_
            refine wa_if_ne 225 dX12_side_155 (by decide) (by exact ⟨by omega, by omega⟩) (fun c_155 => ?_) (fun c_155 => ?_)
            · refine wa_iload dX12_side_225 rfl ?_
              refine wa_if_ne 232 dX12_side_227 (by decide) (by exact ⟨by omega, by omega⟩) (fun c_227 => ?_) (fun c_227 => ?_)
              · refine wa_goto 12 dX12_side_232 (by decide) ?_
                exact nx
              · omega
            · omega
        refine wa_iload_n dX12_side_149 rfl ?_
        refine wa_if_le 225 dX12_side_150 (by decide) (by exact ⟨by omega, by omega⟩) (fun c_150 => ?_) (fun c_150 => ?_)
        · omega
        · refine wa_iload dX12_side_153 rfl ?_
          refine wa_if_ne 225 dX12_side_155 (by decide) (by exact ⟨by omega, by omega⟩) (fun c_155 => ?_) (fun c_155 => ?_)
          · omega
          · refine wa_aload_n dX12_side_158 rfl ?_
            refine wt_getR dX12_side_159 FX12_46 (by assumption) (by assumption) ?_
            refine wa_iload_n dX12_side_162 rfl ?_
            refine wa_iconst dX12_side_163 ?_
            refine wa_isub dX12_side_164 ?_
            refine wa_dup2 dX12_side_165 rfl rfl ?_
            refine wt_iald r.length dX12_side_166 (by assumption) (by omega) (by omega) ?_
            try first | rw [hs] | rw [v1] | skip
            refine wa_iconst dX12_side_167 ?_
            refine wa_isub dX12_side_168 ?_
            rw [e10]
            refine wt_iast r.length dX12_side_169 (by assumption) (by omega) (by omega) (by exact ⟨by omega, by omega⟩) ?_
            rw [hV]
            refine wa_aload_n dX12_side_170 rfl ?_
            refine wt_getR dX12_side_171 FX12_46 (by assumption) (by assumption) ?_
            refine wa_iload_n dX12_side_174 rfl ?_
            refine wa_iconst dX12_side_175 ?_
            refine wa_isub dX12_side_176 ?_
            refine wt_iald r.length dX12_side_177 (by assumption) (by omega) (by omega) ?_
            try first | rw [hs] | rw [v1] | skip
            refine wa_if_le 185 dX12_side_178 (by decide) (by exact ⟨by omega, by omega⟩) (fun c_178 => ?_) (fun c_178 => ?_)
            · omega
            · refine wa_iconst dX12_side_181 ?_
              refine wa_goto 186 dX12_side_182 (by decide) ?_
              refine wa_istore dX12_side_186 (by decide) ?_
              refine wa_aload_n dX12_side_188 rfl ?_
              refine wa_iload dX12_side_189 rfl ?_
              refine wa_if_eq 199 dX12_side_191 (by decide) (by exact ⟨by omega, by omega⟩) (fun c_191 => ?_) (fun c_191 => ?_)
              · omega
              · refine wa_bipush dX12_side_194 rfl ?_
                refine wa_goto 201 dX12_side_196 (by decide) ?_
                refine wa_callVf (ci := 12) dX12_side_201 KX12_is LX12_213 ⟨_, _, rfl, by decide⟩ o168 (ki) (by decide) rfl rfl (Nat.le_of_ble_eq_true rfl) rfl rfl ?_
                refine wa_if_ne 209 dX12_side_204 (by decide) (by exact ⟨by omega, by omega⟩) (fun c_204 => ?_) (fun c_204 => ?_)
                · refine wa_iload_n dX12_side_209 rfl ?_
                  refine wa_iload dX12_side_210 rfl ?_
                  refine wa_if_eq 219 dX12_side_212 (by decide) (by exact ⟨by omega, by omega⟩) (fun c_212 => ?_) (fun c_212 => ?_)
                  · omega
                  · refine wa_iconst dX12_side_215 ?_
                    refine wa_goto 220 dX12_side_216 (by decide) ?_
                    refine wa_isub dX12_side_220 ?_
                    rw [Int.sub_zero]
                    refine wa_istore_n dX12_side_221 (by decide) ?_
                    refine wa_goto 149 dX12_side_222 (by decide) ?_
                    exact w2
                · omega
      · rw [if_neg z] at ki
        rw [ec] at kF
        have := kF (atQ V (tkP b n p 44)) (nV.trans' (NF.at _)) atQ_10 (decide_eq_false z)
        refine wa_iload_n dX12_side_149 rfl ?_
        refine wa_if_le 225 dX12_side_150 (by decide) (by exact ⟨by omega, by omega⟩) (fun c_150 => ?_) (fun c_150 => ?_)
        · omega
        · refine wa_iload dX12_side_153 rfl ?_
          refine wa_if_ne 225 dX12_side_155 (by decide) (by exact ⟨by omega, by omega⟩) (fun c_155 => ?_) (fun c_155 => ?_)
          · omega
          · refine wa_aload_n dX12_side_158 rfl ?_
            refine wt_getR dX12_side_159 FX12_46 (by assumption) (by assumption) ?_
            refine wa_iload_n dX12_side_162 rfl ?_
            refine wa_iconst dX12_side_163 ?_
            refine wa_isub dX12_side_164 ?_
            refine wa_dup2 dX12_side_165 rfl rfl ?_
            refine wt_iald r.length dX12_side_166 (by assumption) (by omega) (by omega) ?_
            try first | rw [hs] | rw [v1] | skip
            refine wa_iconst dX12_side_167 ?_
            refine wa_isub dX12_side_168 ?_
            rw [e10]
            refine wt_iast r.length dX12_side_169 (by assumption) (by omega) (by omega) (by exact ⟨by omega, by omega⟩) ?_
            rw [hV]
            refine wa_aload_n dX12_side_170 rfl ?_
            refine wt_getR dX12_side_171 FX12_46 (by assumption) (by assumption) ?_
            refine wa_iload_n dX12_side_174 rfl ?_
            refine wa_iconst dX12_side_175 ?_
            refine wa_isub dX12_side_176 ?_
            refine wt_iald r.length dX12_side_177 (by assumption) (by omega) (by omega) ?_
            try first | rw [hs] | rw [v1] | skip
            refine wa_if_le 185 dX12_side_178 (by decide) (by exact ⟨by omega, by omega⟩) (fun c_178 => ?_) (fun c_178 => ?_)
            · omega
            · refine wa_iconst dX12_side_181 ?_
              refine wa_goto 186 dX12_side_182 (by decide) ?_
              refine wa_istore dX12_side_186 (by decide) ?_
              refine wa_aload_n dX12_side_188 rfl ?_
              refine wa_iload dX12_side_189 rfl ?_
              refine wa_if_eq 199 dX12_side_191 (by decide) (by exact ⟨by omega, by omega⟩) (fun c_191 => ?_) (fun c_191 => ?_)
              · omega
              · refine wa_bipush dX12_side_194 rfl ?_
                refine wa_goto 201 dX12_side_196 (by decide) ?_
                refine wa_callVf (ci := 12) dX12_side_201 KX12_is LX12_213 ⟨_, _, rfl, by decide⟩ o168 (ki) (by decide) rfl rfl (Nat.le_of_ble_eq_true rfl) rfl rfl ?_
                refine wa_if_ne 209 dX12_side_204 (by decide) (by exact ⟨by omega, by omega⟩) (fun c_204 => ?_) (fun c_204 => ?_)
                · omega
                · refine wa_iconst dX12_side_207 ?_
                  refine wa_zreturn dX12_side_208 rfl (by first | exact Or.inl rfl | exact Or.inr rfl) ?_
                  exact this
end S99zb
