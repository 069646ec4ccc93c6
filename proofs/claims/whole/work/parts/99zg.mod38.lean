/-! ===== 99zg: the reference: sentence, the TERMS told ===== -/
/-- what a sentence leaves -/
def RF (I J : Nat → Nat → Int) : Prop := (∀ a, a ≠ 168 → a ≠ 169 → a ≠ 177 → a ≠ 178 → a ≠ 179 → a ≠ 180 → a ≠ 181 → J a = I a) ∧ ∀ k, k ≠ 10 → k ≠ 12 → k ≠ 14 → k ≠ 15 → k ≠ 16 → k ≠ 20 → k ≠ 31 → k ≠ 32 → J 168 k = I 168 k
set_option maxRecDepth 20000 in
theorem RF.rfl' {I : Nat → Nat → Int} : RF I I := ⟨fun _ _ _ _ _ _ _ _ => rfl, fun _ _ _ _ _ _ _ _ _ => rfl⟩
set_option maxRecDepth 20000 in
theorem RF.trans' {I J K : Nat → Nat → Int} (h : RF I J) (g : RF J K) : RF I K := ⟨fun a a1 a2 a3 a4 a5 a6 a7 => (g.1 a a1 a2 a3 a4 a5 a6 a7).trans (h.1 a a1 a2 a3 a4 a5 a6 a7), fun k k1 k2 k3 k4 k5 k6 k7 k8 => (g.2 k k1 k2 k3 k4 k5 k6 k7 k8).trans (h.2 k k1 k2 k3 k4 k5 k6 k7 k8)⟩
set_option maxRecDepth 20000 in
theorem SF.rf {ρ : Nat} {I J : Nat → Nat → Int} (h : SF ρ I J) (hρ : ρ = 177 ∨ ρ = 178) : RF I J := ⟨fun a a1 _ a3 a4 _ _ a7 => h.1 a a1 (by omega) a7, fun k k1 _ _ k4 k5 _ _ _ => h.2 k k1 k4 k5⟩
set_option maxRecDepth 20000 in
theorem BF.rf {I J : Nat → Nat → Int} (h : BF I J) : RF I J := ⟨fun a a1 a2 _ _ a5 a6 _ => h.1 a a1 a2 a5 a6, fun k _ _ _ _ _ k6 k7 _ => h.2.1 k k6 k7⟩
set_option maxRecDepth 20000 in
theorem MFx.rf {I J : Nat → Nat → Int} (h : MFx I J) : RF I J := ⟨fun a _ a2 _ _ _ _ _ => h.1 a a2, fun k _ _ _ _ _ _ _ _ => by rw [h.1 168 (by decide)]⟩
set_option maxRecDepth 20000 in
theorem RF.at {I : Nat → Nat → Int} (p : Nat) : RF I (atQ I p) := ⟨fun a a1 _ _ _ _ _ _ => atQ_n a1, fun k k1 _ _ _ _ _ _ _ => atQ_k k1⟩
set_option maxRecDepth 20000 in
theorem RF.up {I : Nat → Nat → Int} {i : Nat} {v : Int} (hi : i = 12 ∨ i = 14 ∨ i = 20 ∨ i = 32) : RF I (va_up I 168 (va_up (I 168) i v)) := ⟨fun a a1 _ _ _ _ _ _ => vup_n a1, fun k _ k2 k3 _ _ k6 _ k8 => by rw [vup_s, vup_n (by omega)]⟩
/-- the RULES' rows stay -/
def RlK (I J : Nat → Nat → Int) : Prop := ∀ k, (k = 1 ∨ 252 ≤ k) → J 169 k = I 169 k
set_option maxRecDepth 20000 in
theorem bT_50 {y : Bool} {lt : Nat → Int} {g : Int} : ∀ (w : List Int) (st : WSt) (t : Int) (X : TS) (ov : Bool), WOK st → X.1 ≤ 50 → (∀ s ∈ w, s < 7) → (bT y lt g w st t X ov).2.2.1.1 ≤ 50 ∧ X.1 ≤ (bT y lt g w st t X ov).2.2.1.1 := by
  intro w
  induction w with
  | nil => intro st t X ov _ h _; exact ⟨h, Nat.le_refl _⟩
  | cons s w ih =>
    intro st t X ov hs h50 h7
    have h7' : ∀ s ∈ w, s < 7 := fun x hx => h7 x (List.mem_cons_of_mem _ hx)
    have s7 := h7 s List.mem_cons_self
    simp only [bT]
    by_cases c : 4 ≤ s ∧ s ≤ 6
    · rw [if_pos c]
      refine ih _ _ _ _ (fun p hp => ?_) h50 h7'
      rcases List.mem_cons.mp hp with e | e
      · rw [e]; exact ⟨c, by simp only; omega⟩
      · exact hs p e
    · rw [if_neg c, if_neg (by omega)]
      have hin := comeT_in h50 s (-1) (-1) g
      generalize comeT X s (-1) (-1) g = o at *
      have wo := wtT_ok (y := y) (g := g) st o.1 (mdY y o.2.1 o.1) (ov || o.2.2) hs (by rw [mdY_1]; exact hin.2.2.1) (by rw [mdY_1]; exact ⟨hin.1, hin.2.1⟩)
      rw [mdY_1] at wo
      have := ih _ (wtT y g st o.1 (mdY y o.2.1 o.1) (ov || o.2.2)).2.1 _ (wtT y g st o.1 (mdY y o.2.1 o.1) (ov || o.2.2)).2.2.2 wo.1 wo.2.2.1 h7'
      exact ⟨this.1, by have := this.2; have := wo.2.2.2.1; omega⟩
section S99zg
variable {S : tmS} {L : Nat → Nat → Int64}
abbrev TrPost (S : tmS) (I : Nat → Nat → Int) (L : Nat → Nat → Int64) (q0 : Nat) (R : Option TS) : Option tmV → tmH → Prop := fun q h' => match R with
  | none => q = some (tI 0) ∧ ∃ J, h' = (S, J, L) ∧ RF I J ∧ J 168 10 = (q0 : Int)
  | some Y => q = some (tI 1) ∧ ∃ J, h' = (S, J, L) ∧ RF I J ∧ J 168 10 = ((q0 + 1 : Nat) : Int) ∧ MT J (clX Y) ∧ RlK I J
-- behind building: closes, joins, closes
set_option maxRecDepth 20000 in
theorem se_269 (hL : LX S) {I : Nat → Nat → Int} {q0 : Nat} (h10 : I 168 10 = (q0 : Int)) (hq0 : q0 ≤ 120) {Y0 : TS} (hM : MT I Y0) (hY : TsOK Y0) {t u : Nat} (ht : t < Y0.1) (hu : u < Y0.1) {a1 a2 : Int} : tmW kX12_sentence 5 0 0 269 [some (tR 168), some (tI a1), some (tI a2), some (tI t), some (tI u)] [] (S, I, L) (fun q h' => q = some (tI 1) ∧ ∃ J, h' = (S, J, L) ∧ RF I J ∧ J 168 10 = ((q0 + 1 : Nat) : Int) ∧ MT J (clX (jnX Y0 t u)) ∧ RlK I J) := by
  have o168 := oX168 hL
  have r168_0 := rX168_0 hL
  have r168_1 := rX168_1 hL
  have r168_3 := rX168_3 hL
  have r168_4 := rX168_4 hL
  have r168_5 := rX168_5 hL
  have r168_6 := rX168_6 hL
  have r168_7 := rX168_7 hL
  have r168_8 := rX168_8 hL
  have r168_11 := rX168_11 hL
  have r168_13 := rX168_13 hL
  have r168_17 := rX168_17 hL
  have r168_18 := rX168_18 hL
  have r168_19 := rX168_19 hL
  have r168_21 := rX168_21 hL
  have r168_22 := rX168_22 hL
  have r168_23 := rX168_23 hL
  have r168_24 := rX168_24 hL
  have r168_25 := rX168_25 hL
  have r168_26 := rX168_26 hL
  have r168_27 := rX168_27 hL
  have r168_28 := rX168_28 hL
  have r168_29 := rX168_29 hL
  have r168_30 := rX168_30 hL
  have eK : va_up I 168 (va_up (I 168) 10 ((q0 : Int) + 1)) = atQ I (q0 + 1) := rfl
  have k1 := c_mcloses (I := atQ I (q0 + 1)) (L := L) hL (hM.row (atQ_n (by decide))) hY
  have hC := (clX_ok hY).1
  have ej := cl_jn hY.2.2.1 ht hu
  have p291 : ∀ J K : Nat → Nat → Int, MFx (atQ I (q0 + 1)) J → MFx J K → MT K (jnX (clX Y0) t u) → tmW kX12_sentence 5 0 0 291 [some (tR 168), some (tI a1), some (tI a2), some (tI t), some (tI u)] [] (S, K, L) (fun q h' => q = some (tI 1) ∧ ∃ J, h' = (S, J, L) ∧ RF I J ∧ J 168 10 = ((q0 + 1 : Nat) : Int) ∧ MT J (clX (jnX Y0 t u)) ∧ RlK I J) := fun J K f1 f2 m2 => by
    have k3 := c_mcloses (I := K) (L := L) hL m2 (jnX_ok hC ht hu)
    refine wa_aload_n dX12_sentence_291 rfl ?_
    refine wa_callV (ci := 12) dX12_sentence_292 KX12_closes LX12_123 ⟨_, _, rfl, by decide⟩ o168 (k3) (by decide) rfl (Nat.le_of_ble_eq_true rfl) rfl rfl (fun r h' hq => ?_)
    obtain ⟨rfl, M, rfl, m3, f3⟩ := hq
    refine wa_iconst dX12_sentence_295 ?_
    refine wa_zreturn dX12_sentence_296 rfl (by first | exact Or.inl rfl | exact Or.inr rfl) ?_
    exact ⟨rfl, M, rfl, (((RF.at _).trans' f1.rf).trans' f2.rf).trans' f3.rf, by rw [f3.1 168 (by decide), f2.1 168 (by decide), f1.1 168 (by decide)]; exact atQ_10, m3.cg ej.symm', fun k hk => by rw [f3.2 k hk, f2.2 k hk, f1.2 k hk, atQ_n (by decide)]⟩
  have p283 : ∀ J : Nat → Nat → Int, MFx (atQ I (q0 + 1)) J → MT J (clX Y0) → tmW kX12_sentence 5 0 0 283 [some (tR 168), some (tI a1), some (tI a2), some (tI t), some (tI u)] [] (S, J, L) (fun q h' => q = some (tI 1) ∧ ∃ J, h' = (S, J, L) ∧ RF I J ∧ J 168 10 = ((q0 + 1 : Nat) : Int) ∧ MT J (clX (jnX Y0 t u)) ∧ RlK I J) := fun J f1 m1 => by
    have k2 := c_mjoins (I := J) (L := L) hL m1 hC t u ht hu
    refine wa_aload_n dX12_sentence_283 rfl ?_
    refine wa_iload_n dX12_sentence_284 rfl ?_
    refine wa_iload dX12_sentence_285 rfl ?_
    refine wa_callV (ci := 12) dX12_sentence_287 KX12_joins LX12_103 ⟨_, _, rfl, by decide⟩ o168 (k2) (by decide) rfl (Nat.le_of_ble_eq_true rfl) rfl rfl (fun r h' hq => ?_)
    obtain ⟨rfl, K, rfl, m2, f2⟩ := hq
    refine wa_pop dX12_sentence_290 rfl ?_
    exact p291 J K f1 f2 m2
  refine wa_aload_n dX12_sentence_269 rfl ?_
  refine wa_dup dX12_sentence_270 rfl ?_
  refine wt_getI dX12_sentence_271 FX12_195 (by assumption) ?_
  try first | rw [h10] | skip
  refine wa_iconst dX12_sentence_274 ?_
  refine wa_iadd dX12_sentence_275 ?_
  refine wt_putI dX12_sentence_276 FX12_195 (WX12_10 _ _) (by assumption) (by exact ⟨by omega, by omega⟩) ?_
  rw [eK]
  refine wa_aload_n dX12_sentence_279 rfl ?_
  refine wa_callV (ci := 12) dX12_sentence_280 KX12_closes LX12_123 ⟨_, _, rfl, by decide⟩ o168 (k1) (by decide) rfl (Nat.le_of_ble_eq_true rfl) rfl rfl (fun r h' hq => ?_)
  obtain ⟨rfl, J, rfl, m1, f1⟩ := hq
  exact p283 J f1 m1
set_option maxRecDepth 20000 in
theorem se_208 (hL : LX S) {I : Nat → Nat → Int} {q0 : Nat} (h10 : I 168 10 = (q0 : Int)) (hq0 : q0 ≤ 120) {X : TS} (hX : TsOK X) (hM : MT I (clX X)) {w : List Int} {v : Option (List Int)} (hw : TW w) (hv : ∀ x, v = some x → TW x) (hlw : w.length ≤ 120) (hlv : ∀ x, v = some x → x.length ≤ 120) (h12 : I 168 12 = (w.length : Int)) (h14 : I 168 14 = (((v.getD []).length : Nat) : Int)) (h7 : ∀ i, i < w.length → I 177 i = w.getD i 0) (h8 : ∀ x, v = some x → ∀ i, i < x.length → I 178 i = x.getD i 0) {a1 a2 : Int} : tmW kX12_sentence 5 0 0 208 [some (tR 168), some (tI a1), some (tI a2), none, none] [] (S, I, L) (TrPost S I L q0 (trmW X w v)) := by
  have o168 := oX168 hL
  have r168_0 := rX168_0 hL
  have r168_1 := rX168_1 hL
  have r168_3 := rX168_3 hL
  have r168_4 := rX168_4 hL
  have r168_5 := rX168_5 hL
  have r168_6 := rX168_6 hL
  have r168_7 := rX168_7 hL
  have r168_8 := rX168_8 hL
  have r168_11 := rX168_11 hL
  have r168_13 := rX168_13 hL
  have r168_17 := rX168_17 hL
  have r168_18 := rX168_18 hL
  have r168_19 := rX168_19 hL
  have r168_21 := rX168_21 hL
  have r168_22 := rX168_22 hL
  have r168_23 := rX168_23 hL
  have r168_24 := rX168_24 hL
  have r168_25 := rX168_25 hL
  have r168_26 := rX168_26 hL
  have r168_27 := rX168_27 hL
  have r168_28 := rX168_28 hL
  have r168_29 := rX168_29 hL
  have r168_30 := rX168_30 hL
  have o177 := oX177 hL
  have o178 := oX178 hL
  generalize hV : va_up I 168 (va_up (va_up (I 168) 20 0) 32 1) = V
  have fV : RF I V := by
    rw [← hV]
    exact ⟨fun a a1 _ _ _ _ _ _ => vup_n a1, fun k _ _ _ _ _ k6 _ k8 => by rw [vup_s, vup_n k8, vup_n k6]⟩
  have gV : ∀ a, a ≠ 168 → V a = I a := fun a ha => by rw [← hV, vup_n ha]
  have v8 : ∀ k, k ≠ 20 → k ≠ 32 → V 168 k = I 168 k := fun k k1 k2 => by rw [← hV, vup_s, vup_n k2, vup_n k1]
  have v12 : V 168 12 = (w.length : Int) := by rw [v8 12 (by decide) (by decide)]; exact h12
  have v20 : V 168 20 = ovI false := by rw [← hV, vup_s, vup_n (by decide), vup_s]; rfl
  have v32 : V 168 32 = ovI true := by rw [← hV, vup_s, vup_s]; rfl
  have h50 := hX.1
  have kb := c_mbuilds (I := V) (L := L) hL (y := true) (g := 0) ⟨by decide, by decide⟩ (ρ := 177) (ln := 120) (fr := 0) o177 (W := w) (by omega) (by decide) hlw hw.1 (fun J hJ i hi => by rw [hJ.1 177 (by decide) (by decide) (by decide) (by decide), gV 177 (by decide), Nat.zero_add]; exact h7 i hi) (X := clX X) h50 (fun s hs z => by have := hw.2.1 s hs; omega) (ov := false) (hM.row (gV 169 (by decide))) v20 v32
  have y1 := young1 hX hw (V 189)
  generalize ho1 : bT true (V 189) 0 w [] (-1) (clX X) false = o1 at kb y1
  -- behind the first
  have p232 : ∀ M : Nat → Nat → Int, MT M o1.2.2.1 → M 168 20 = ovI o1.2.2.2 → BF V M → tmW kX12_sentence 5 0 0 232 [some (tR 168), some (tI a1), some (tI a2), none, none] [tI o1.2.1] (S, M, L) (TrPost S I L q0 (trmW X w v)) := fun M m1 m2 m3 => by
    have fM : RF I M := fV.trans' m3.rf
    have m10 : M 168 10 = (q0 : Int) := by rw [m3.2.1 10 (by decide) (by decide), v8 10 (by decide) (by decide)]; exact h10
    have m14 : M 168 14 = (((v.getD []).length : Nat) : Int) := by rw [m3.2.1 14 (by decide) (by decide), v8 14 (by decide) (by decide)]; exact h14
    have m32 : M 168 32 = ovI true := by rw [m3.2.1 32 (by decide) (by decide)]; exact v32
    have rk : RlK I M := fun k hk => by rw [m3.2.2 k hk, gV 169 (by decide)]
    cases v with
    | none =>
      have m14 : M 168 14 = 0 := m14
      unfold trmW
      cases hb : bW (fun _ => 0) 0 w [] X [] with
      | none =>
        rw [hb] at y1
        simp only at y1
        rw [y1] at m2
        have m2 : M 168 20 = 1 := m2
        simp only [Option.bind_none]
        generalize o1.2.1 = t1
        refine wa_istore_n dX12_sentence_232 (by decide) ?_
        refine wa_aload_n dX12_sentence_233 rfl ?_
        refine wt_getI dX12_sentence_234 FX12_219 (by assumption) ?_
        try first | rw [m14] | rw [m2] | skip
        refine wa_if_ne 244 dX12_sentence_237 (by decide) (by exact ⟨by omega, by omega⟩) (fun c_237 => ?_) (fun c_237 => ?_)
        · omega
        · refine wa_iload_n dX12_sentence_240 rfl ?_
          refine wa_goto 258 dX12_sentence_241 (by decide) ?_
          refine wa_istore dX12_sentence_258 (by decide) ?_
          refine wa_aload_n dX12_sentence_260 rfl ?_
          refine wt_getZ dX12_sentence_261 FX12_91 (by assumption) ?_
          try first | rw [m14] | rw [m2] | skip
          refine wa_if_eq 269 dX12_sentence_264 (by decide) (by exact ⟨by omega, by omega⟩) (fun c_264 => ?_) (fun c_264 => ?_)
          · omega
          · refine wa_iconst dX12_sentence_267 ?_
            refine wa_zreturn dX12_sentence_268 rfl (by first | exact Or.inl rfl | exact Or.inr rfl) ?_
            exact ⟨rfl, M, rfl, fM, m10⟩
      | some o =>
        rw [hb] at y1
        obtain ⟨Z1, b1, b2, b3, b4, b5, b6, b7, b8, b9, b10, b11, b12⟩ := y1
        rw [b3] at m2
        have m2 : M 168 20 = 0 := m2
        rw [b2] at m1
        rw [b4]
        simp only [Option.bind_some]
        have hz1 : Z1.1 = o.1.1 := b6.1
        have se := (se_269 (L := L) hL m10 hq0 m1 (yX_ok b8 _) (t := lastI o.2) (u := lastI o.2) (show lastI o.2 < Z1.1 by omega) (show lastI o.2 < Z1.1 by omega) (a1 := a1) (a2 := a2)).wk (Q2 := TrPost S I L q0 (some (endW o.1 o.2 (lastI o.2) (lastI o.2)))) (fun q h' hq => by
          obtain ⟨rfl, J, rfl, j1, j2, j3, j4⟩ := hq
          refine ⟨rfl, J, rfl, fM.trans' j1, j2, ?_, fun k hk => by rw [j4 k hk]; exact rk k hk⟩
          exact j3.cg (cl_end hX b9 b10 b11 b12 b6 b8.2.2.1 o.2 b5 b5).symm')
        refine wa_istore_n dX12_sentence_232 (by decide) ?_
        refine wa_aload_n dX12_sentence_233 rfl ?_
        refine wt_getI dX12_sentence_234 FX12_219 (by assumption) ?_
        try first | rw [m14] | rw [m2] | skip
        refine wa_if_ne 244 dX12_sentence_237 (by decide) (by exact ⟨by omega, by omega⟩) (fun c_237 => ?_) (fun c_237 => ?_)
        · omega
        · refine wa_iload_n dX12_sentence_240 rfl ?_
          refine wa_goto 258 dX12_sentence_241 (by decide) ?_
          refine wa_istore dX12_sentence_258 (by decide) ?_
          refine wa_aload_n dX12_sentence_260 rfl ?_
          refine wt_getZ dX12_sentence_261 FX12_91 (by assumption) ?_
          try first | rw [m14] | rw [m2] | skip
          refine wa_if_eq 269 dX12_sentence_264 (by decide) (by exact ⟨by omega, by omega⟩) (fun c_264 => ?_) (fun c_264 => ?_)
          · exact se
          · omega
    | some x =>
      have hx := hv x rfl
      have hlx := hlv x rfl
      have m14 : M 168 14 = (x.length : Int) := m14
      have nx := List.length_pos_iff.mpr hx.ne
      have kb2 := c_mbuilds (I := M) (L := L) hL (y := true) (g := 0) ⟨by decide, by decide⟩ (ρ := 178) (ln := 120) (fr := 0) o178 (W := x) (by omega) (by decide) hlx hx.1 (fun J hJ i hi => by rw [hJ.1 178 (by decide) (by decide) (by decide) (by decide), m3.1 178 (by decide) (by decide) (by decide) (by decide), gV 178 (by decide), Nat.zero_add]; exact h8 x rfl i hi) (X := o1.2.2.1) (by
        rw [← ho1]
        exact (bT_50 w [] (-1) (clX X) false (fun p hp => by cases hp) h50 hw.2.1).1) (fun s hs z => by have := hx.2.1 s hs; omega) (ov := o1.2.2.2) m1 m2 m32
      generalize ho2 : bT true (M 189) 0 x [] (-1) o1.2.2.1 o1.2.2.2 = o2 at kb2
      -- behind both
      have p258 : ∀ W : Nat → Nat → Int, MT W o2.2.2.1 → W 168 20 = ovI o2.2.2.2 → BF M W → tmW kX12_sentence 5 0 0 258 [some (tR 168), some (tI a1), some (tI a2), some (tI o1.2.1), none] [tI o2.2.1] (S, W, L) (TrPost S I L q0 (trmW X w (some x))) := fun W w1 w2 w3 => by
        have fW : RF I W := fM.trans' w3.rf
        have w10 : W 168 10 = (q0 : Int) := by rw [w3.2.1 10 (by decide) (by decide)]; exact m10
        have rkW : RlK I W := fun k hk => by rw [w3.2.2 k hk]; exact rk k hk
        have over : o2.2.2.2 = true → trmW X w (some x) = none → tmW kX12_sentence 5 0 0 258 [some (tR 168), some (tI a1), some (tI a2), some (tI o1.2.1), none] [tI o2.2.1] (S, W, L) (TrPost S I L q0 (trmW X w (some x))) := fun z1 z2 => by
          rw [z1] at w2
          have w2 : W 168 20 = 1 := w2
          rw [z2]
          generalize o1.2.1 = t1
          generalize o2.2.1 = t2
          refine wa_istore dX12_sentence_258 (by decide) ?_
          refine wa_aload_n dX12_sentence_260 rfl ?_
          refine wt_getZ dX12_sentence_261 FX12_91 (by assumption) ?_
          try first | rw [w2] | skip
          refine wa_if_eq 269 dX12_sentence_264 (by decide) (by exact ⟨by omega, by omega⟩) (fun c_264 => ?_) (fun c_264 => ?_)
          · omega
          · refine wa_iconst dX12_sentence_267 ?_
            refine wa_zreturn dX12_sentence_268 rfl (by first | exact Or.inl rfl | exact Or.inr rfl) ?_
            exact ⟨rfl, W, rfl, fW, w10⟩
        cases hb : bW (fun _ => 0) 0 w [] X [] with
        | none =>
          rw [hb] at y1
          simp only at y1
          refine over (by rw [← ho2, y1]; exact bT_ov _ _ _ _) ?_
          unfold trmW
          rw [hb]; rfl
        | some o =>
          rw [hb] at y1
          obtain ⟨Z1, b1, b2, b3, b4, b5, b6, b7, b8, b9, b10, b11, b12⟩ := y1
          have y2 := young2 b7 b8 b6 hx (M 189) o.2
          rw [b2, b3] at ho2
          rw [ho2] at y2
          cases hb2 : bW (fun _ => 0) 0 x [] o.1 [] with
          | none =>
            rw [hb2] at y2
            simp only at y2
            refine over y2 ?_
            unfold trmW
            rw [hb]
            simp only [Option.bind_some]
            rw [hb2]; rfl
          | some r =>
            rw [hb2] at y2
            obtain ⟨Z2, d2, d3, d4, d5, d6, d7, d8, d9, d10, d11, d12⟩ := y2
            have et : trmW X w (some x) = some (endW r.1 (o.2 ++ r.2) (lastI o.2) (lastI r.2)) := by
              unfold trmW
              rw [hb]
              simp only [Option.bind_some]
              rw [hb2]; rfl
            rw [et]
            rw [d3] at w2
            have w2 : W 168 20 = 0 := w2
            rw [d2] at w1
            rw [b4, d4]
            have hz2 : Z2.1 = r.1.1 := d6.1
            have lt1 : lastI o.2 < r.1.1 := Nat.lt_of_lt_of_le b5 d9.1
            have se := (se_269 (L := L) hL w10 hq0 w1 (yX_ok d8 _) (t := lastI o.2) (u := lastI r.2) (show lastI o.2 < Z2.1 by omega) (show lastI r.2 < Z2.1 by omega) (a1 := a1) (a2 := a2)).wk (Q2 := TrPost S I L q0 (some (endW r.1 (o.2 ++ r.2) (lastI o.2) (lastI r.2)))) (fun q h' hq => by
              obtain ⟨rfl, J, rfl, j1, j2, j3, j4⟩ := hq
              refine ⟨rfl, J, rfl, fW.trans' j1, j2, ?_, fun k hk => by rw [j4 k hk]; exact rkW k hk⟩
              exact j3.cg (cl_end hX (b9.trans d9) (b10.trans' d10 d9) (b11.trans d11) (b12.trans' d12 d11) d6 d8.2.2.1 (o.2 ++ r.2) lt1 d5).symm')
            refine wa_istore dX12_sentence_258 (by decide) ?_
            refine wa_aload_n dX12_sentence_260 rfl ?_
            refine wt_getZ dX12_sentence_261 FX12_91 (by assumption) ?_
            try first | rw [w2] | skip
            refine wa_if_eq 269 dX12_sentence_264 (by decide) (by exact ⟨by omega, by omega⟩) (fun c_264 => ?_) (fun c_264 => ?_)
            · exact se
            · omega
      generalize o1.2.1 = t1 at p258 ⊢
      refine wa_istore_n dX12_sentence_232 (by decide) ?_
      refine wa_aload_n dX12_sentence_233 rfl ?_
      refine wt_getI dX12_sentence_234 FX12_219 (by assumption) ?_
      try first | rw [m14] | skip
      refine wa_if_ne 244 dX12_sentence_237 (by decide) (by exact ⟨by omega, by omega⟩) (fun c_237 => ?_) (fun c_237 => ?_)
      · refine wa_aload_n dX12_sentence_244 rfl ?_
        refine wa_aload_n dX12_sentence_245 rfl ?_
        refine wt_getR dX12_sentence_246 FX12_37 (by assumption) (by assumption) ?_
        refine wa_iconst dX12_sentence_249 ?_
        refine wa_aload_n dX12_sentence_250 rfl ?_
        refine wt_getI dX12_sentence_251 FX12_219 (by assumption) ?_
        try first | rw [m14] | skip
        refine wa_iconst dX12_sentence_254 ?_
        refine wa_callV (ci := 12) dX12_sentence_255 KX12_builds LX12_178 ⟨_, _, rfl, by decide⟩ o168 (kb2) (by decide) rfl (Nat.le_of_ble_eq_true rfl) rfl rfl (fun r h' hq => ?_)
        obtain ⟨rfl, W, rfl, w1, w2, w3⟩ := hq
        exact p258 W w1 w2 w3
      · omega
  refine wa_aload_n dX12_sentence_208 rfl ?_
  refine wa_iconst dX12_sentence_209 ?_
  refine wt_putZ dX12_sentence_210 FX12_91 (WX12_20 _ _) (by assumption) (by first | exact Or.inl rfl | exact Or.inr rfl) ?_
  refine wa_aload_n dX12_sentence_213 rfl ?_
  refine wa_iconst dX12_sentence_214 ?_
  refine wt_putZ dX12_sentence_215 FX12_172 (WX12_32 _ _) (by assumption) (by first | exact Or.inl rfl | exact Or.inr rfl) ?_
  rw [vup_s, vup_vup, hV]
  refine wa_aload_n dX12_sentence_218 rfl ?_
  refine wa_aload_n dX12_sentence_219 rfl ?_
  refine wt_getR dX12_sentence_220 FX12_34 (by assumption) (by assumption) ?_
  refine wa_iconst dX12_sentence_223 ?_
  refine wa_aload_n dX12_sentence_224 rfl ?_
  refine wt_getI dX12_sentence_225 FX12_216 (by assumption) ?_
  try first | rw [v12] | skip
  refine wa_iconst dX12_sentence_228 ?_
  refine wa_callV (ci := 12) dX12_sentence_229 KX12_builds LX12_178 ⟨_, _, rfl, by decide⟩ o168 (kb) (by decide) rfl (Nat.le_of_ble_eq_true rfl) rfl rfl (fun r h' hq => ?_)
  obtain ⟨rfl, M, rfl, m1, m2, m3⟩ := hq
  exact p232 M m1 m2 m3
end S99zg
