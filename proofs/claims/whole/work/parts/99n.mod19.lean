/-! ===== 99n: the reference: made, waiting ===== -/
def ovI (b : Bool) : Int := if b = true then 1 else 0
def comeT (X : TS) (s a b g : Int) : Int × TS × Bool := match tsCome X s a b g with
  | none => (0, X, true)
  | some o => (o.1, o.2, false)
def mdY (y : Bool) (X : TS) (t : Int) : TS := if y = true then g0X X t.toNat else X
def wtT (y : Bool) (g : Int) : WSt → Int → TS → Bool → WSt × Int × TS × Bool
  | [], t, X, ov => ([], t, X, ov)
  | q :: r, t, X, ov => if q.1 = 6 ∧ q.2 < 0 then ((q.1, t) :: r, -1, X, ov) else wtT y g r (comeT X q.1 (if q.1 = 6 then q.2 else t) (if q.1 = 6 then t else -1) g).1 (mdY y (comeT X q.1 (if q.1 = 6 then q.2 else t) (if q.1 = 6 then t else -1) g).2.1 (comeT X q.1 (if q.1 = 6 then q.2 else t) (if q.1 = 6 then t else -1) g).1) (ov || (comeT X q.1 (if q.1 = 6 then q.2 else t) (if q.1 = 6 then t else -1) g).2.2)
set_option maxRecDepth 20000 in
theorem mdY_1 {y : Bool} {X : TS} {t : Int} : (mdY y X t).1 = X.1 := by unfold mdY; split <;> rfl
set_option maxRecDepth 20000 in
theorem comeT_in {X : TS} (h : X.1 ≤ 50) (s a b g : Int) : 0 ≤ (comeT X s a b g).1 ∧ (comeT X s a b g).1 < (comeT X s a b g).2.1.1 ∧ (comeT X s a b g).2.1.1 ≤ 50 ∧ X.1 ≤ (comeT X s a b g).2.1.1 := by
  have hin := tsLk_in X s a b
  unfold comeT tsCome
  by_cases c : tsLk X s a b = -1
  · rw [if_pos c]
    by_cases c5 : X.1 < 50
    · rw [if_pos c5]; simp only [tsAdd]; omega
    · rw [if_neg c5]; simp only; omega
  · rw [if_neg c]; simp only; omega
/-- the stack of signs that wait -/
def SkW (I : Nat → Nat → Int) : WSt → Prop
  | [] => True
  | q :: r => I 179 r.length = q.1 ∧ I 180 r.length = q.2 ∧ SkW I r
set_option maxRecDepth 20000 in
theorem SkW.cg {I J : Nat → Nat → Int} : ∀ {st : WSt}, SkW I st → (∀ i, i < st.length → J 179 i = I 179 i ∧ J 180 i = I 180 i) → SkW J st := by
  intro st
  induction st with
  | nil => intro _ _; trivial
  | cons q r ih =>
    intro h e
    obtain ⟨a, b, c⟩ := h
    obtain ⟨e1, e2⟩ := e r.length (by simp)
    exact ⟨by rw [e1]; exact a, by rw [e2]; exact b, ih c (fun i hi => e i (by simp; omega))⟩
def WOK (st : WSt) : Prop := ∀ q ∈ st, (4 ≤ q.1 ∧ q.1 ≤ 6) ∧ -1 ≤ q.2 ∧ q.2 < 50
def BF (I J : Nat → Nat → Int) : Prop := (∀ a, a ≠ 168 → a ≠ 169 → a ≠ 179 → a ≠ 180 → J a = I a) ∧ (∀ k, k ≠ 20 → k ≠ 31 → J 168 k = I 168 k) ∧ ∀ k, (k = 1 ∨ 252 ≤ k) → J 169 k = I 169 k
set_option maxRecDepth 20000 in
theorem BF.rfl' {I : Nat → Nat → Int} : BF I I := ⟨fun _ _ _ _ _ => rfl, fun _ _ _ => rfl, fun _ _ => rfl⟩
set_option maxRecDepth 20000 in
theorem BF.trans' {I J K : Nat → Nat → Int} (h : BF I J) (g : BF J K) : BF I K := ⟨fun a a1 a2 a3 a4 => (g.1 a a1 a2 a3 a4).trans (h.1 a a1 a2 a3 a4), fun k k1 k2 => (g.2.1 k k1 k2).trans (h.2.1 k k1 k2), fun k hk => (g.2.2 k hk).trans (h.2.2 k hk)⟩
section S99n
variable {S : tmS} {I : Nat → Nat → Int} {L : Nat → Nat → Int64}
set_option maxRecDepth 20000 in
theorem c_mcomeT (hL : LX S) {X : TS} (hX : MT I X) (hn5 : X.1 ≤ 50) (s p q g : Int) (hs : inR s) (hp : inR p) (hq : inR q) (hg : inR g) {ov : Bool} (ho : I 168 20 = ovI ov) : tmC yX12_comes kX12_comes 2 0 0 [tR 168, tI s, tI p, tI q, tI g] (S, I, L) (fun r h' => r = some (tI (comeT X s p q g).1) ∧ ∃ I', h' = (S, I', L) ∧ MT I' (comeT X s p q g).2.1 ∧ BF I I' ∧ I' 168 20 = ovI (ov || (comeT X s p q g).2.2) ∧ I' 168 31 = I 168 31 ∧ I' 179 = I 179 ∧ I' 180 = I 180) := by
  refine (c_mcomes (I := I) (L := L) hL hX hn5 s p q g hs hp hq hg).weaken (fun r h' hr => ?_)
  obtain ⟨I', rfl, hr⟩ := hr
  unfold comeT
  cases hc : tsCome X s p q g with
  | none =>
    rw [hc] at hr
    obtain ⟨rfl, rfl⟩ := hr
    refine ⟨rfl, _, rfl, by unfold MT; rw [vup_n (by decide)]; exact hX, ⟨fun a a1 _ _ _ => vup_n a1, fun k k1 _ => by rw [vup_s, vup_n k1], fun k _ => by rw [vup_n (by decide)]⟩, ?_, by rw [vup_s, vup_n (by decide)], by rw [vup_n (by decide)], by rw [vup_n (by decide)]⟩
    rw [vup_s, vup_s]
    simp [ovI]
  | some o =>
    rw [hc] at hr
    obtain ⟨rfl, hm, hf⟩ := hr
    refine ⟨rfl, _, rfl, hm, ⟨fun a a1 a2 _ _ => hf.1 a a2, fun k _ _ => by rw [hf.1 168 (by decide)], hf.2⟩, ?_, by rw [hf.1 168 (by decide)], hf.1 179 (by decide), hf.1 180 (by decide)⟩
    rw [hf.1 168 (by decide), ho]
    simp
set_option maxRecDepth 20000 in
theorem c_mmade (hL : LX S) {X : TS} (hM : MT I X) (hn5 : X.1 ≤ 50) {y : Bool} (hy : I 168 32 = ovI y) {t : Int} (ht : 0 ≤ t ∧ t < X.1) : tmC yX12_made kX12_made 1 0 0 [tR 168, tI t] (S, I, L) (fun r h' => r = none ∧ ∃ I', h' = (S, I', L) ∧ MT I' (mdY y X t) ∧ BF I I' ∧ I' 168 = I 168 ∧ I' 179 = I 179 ∧ I' 180 = I 180) := by
  obtain ⟨t, rfl⟩ : ∃ t' : Nat, t = (t' : Int) := ⟨t.toNat, by omega⟩
  refine tmC.mk (lv := [some (tR 168), some (tI t)]) 0 ⟨rfl, by decide +kernel, by decide⟩ rfl rfl ?_
  have o168 := oX168 hL
  have r168_0 := rX168_0 hL
  have r168_1 := rX168_1 hL
  have r168_3 := rX168_3 hL
  have r168_4 := rX168_4 hL
  have r168_5 := rX168_5 hL
  have r168_6 := rX168_6 hL
  have r168_7 := rX168_7 hL
  have r168_8 := rX168_8 hL
  have r168_11 := rX168_11 hL
  have r168_13 := rX168_13 hL
  have r168_17 := rX168_17 hL
  have r168_18 := rX168_18 hL
  have r168_19 := rX168_19 hL
  have r168_21 := rX168_21 hL
  have r168_22 := rX168_22 hL
  have r168_23 := rX168_23 hL
  have r168_24 := rX168_24 hL
  have r168_25 := rX168_25 hL
  have r168_26 := rX168_26 hL
  have r168_27 := rX168_27 hL
  have r168_28 := rX168_28 hL
  have r168_29 := rX168_29 hL
  have r168_30 := rX168_30 hL
  have o169 := oX169 hL
  refine wt_ir (fun hI => ?_)
  cases y with
  | true =>
    have hy1 : I 168 32 = 1 := hy
    have fin : MT (va_up I 169 (va_up (I 169) (152 + t) 0)) (mdY true X t) := by
      unfold mdY
      rw [if_pos rfl, Int.toNat_natCast]
      refine ⟨by rw [vup_s, vup_n (by omega)]; exact hM.1, fun u hu => ?_⟩
      have hu : u < X.1 := hu
      obtain ⟨m1, m2, m3, m4, m5⟩ := hM.2 u hu
      rw [vup_s]
      simp (disch := omega) only [vup_n]
      refine ⟨m1, m2, m3, ?_, m5⟩
      show va_up (I 169) (152 + t) 0 (152 + u) = va_up X.2.2.2.2.1 t 0 u
      by_cases e : u = t
      · subst e; rw [vup_s, vup_s]
      · rw [vup_n (by omega), vup_n e]; exact m4
    refine wa_aload_n dX12_made_0 rfl ?_
    refine wt_getR dX12_made_1 FX12_7 (by assumption) (by assumption) ?_
    refine wa_sipush dX12_made_4 rfl ?_
    refine wa_iload_n dX12_made_7 rfl ?_
    refine wa_iadd dX12_made_8 ?_
    refine wa_aload_n dX12_made_9 rfl ?_
    refine wt_getZ dX12_made_10 FX12_172 (by assumption) ?_
    try first | rw [hy1] | skip
    refine wa_if_eq 20 dX12_made_13 (by decide) (by exact ⟨by omega, by omega⟩) (fun c_13 => ?_) (fun c_13 => ?_)
    · omega
    · refine wa_iconst dX12_made_16 ?_
      refine wa_goto 30 dX12_made_17 (by decide) ?_
      refine wt_iast (152 + t) dX12_made_30 (by assumption) (by omega) (by omega) (by exact ⟨by omega, by omega⟩) ?_
      refine wa_return dX12_made_31 rfl ?_
      exact ⟨rfl, _, rfl, fin, ⟨fun a _ a2 _ _ => vup_n a2, fun k _ _ => by rw [vup_n (by decide)], fun k hk => by rw [vup_s, vup_n (by omega)]⟩, vup_n (by decide), vup_n (by decide), vup_n (by decide)⟩
  | false =>
    have hy0 : I 168 32 = 0 := hy
    have rg := hI 169 (152 + t)
    refine wa_aload_n dX12_made_0 rfl ?_
    refine wt_getR dX12_made_1 FX12_7 (by assumption) (by assumption) ?_
    refine wa_sipush dX12_made_4 rfl ?_
    refine wa_iload_n dX12_made_7 rfl ?_
    refine wa_iadd dX12_made_8 ?_
    refine wa_aload_n dX12_made_9 rfl ?_
    refine wt_getZ dX12_made_10 FX12_172 (by assumption) ?_
    try first | rw [hy0] | skip
    refine wa_if_eq 20 dX12_made_13 (by decide) (by first | exact rg | exact ⟨by omega, by omega⟩) (fun c_13 => ?_) (fun c_13 => ?_)
    · refine wa_aload_n dX12_made_20 rfl ?_
      refine wt_getR dX12_made_21 FX12_7 (by assumption) (by assumption) ?_
      refine wa_sipush dX12_made_24 rfl ?_
      refine wa_iload_n dX12_made_27 rfl ?_
      refine wa_iadd dX12_made_28 ?_
      refine wt_iald (152 + t) dX12_made_29 (by assumption) (by omega) (by omega) ?_
      try first | rw [hy0] | skip
      refine wt_iast (152 + t) dX12_made_30 (by assumption) (by omega) (by omega) (by first | exact rg | exact ⟨by omega, by omega⟩) ?_
      rw [vup_self, vup_self]
      refine wa_return dX12_made_31 rfl ?_
      exact ⟨rfl, I, rfl, hM, BF.rfl', rfl, rfl, rfl⟩
    · omega
abbrev WtPost (S : tmS) (I : Nat → Nat → Int) (L : Nat → Nat → Int64) (o : WSt × Int × TS × Bool) : Option tmV → tmH → Prop := fun r h' => r = some (tI o.2.1) ∧ ∃ I', h' = (S, I', L) ∧ MT I' o.2.2.1 ∧ SkW I' o.1 ∧ I' 168 20 = ovI o.2.2.2 ∧ I' 168 31 = (o.1.length : Int) ∧ BF I I'
set_option maxRecDepth 20000 in
theorem mwait_loop (hL : LX S) {y : Bool} {g : Int} (hg : inR g) {dp pt : Int} : ∀ (st : WSt) (t : Int) (X : TS) (J : Nat → Nat → Int) (ov : Bool), SkW J st → WOK st → st.length ≤ 120 → 0 ≤ t ∧ t < X.1 → X.1 ≤ 50 → MT J X → BF I J → J 168 20 = ovI ov → J 168 32 = ovI y → tmW kX12_waiting 3 0 0 6 [some (tR 168), some (tI dp), some (tI pt), some (tI g), some (tI t), some (tI (st.length : Nat))] [] (S, J, L) (WtPost S I L (wtT y g st t X ov)) := by
  intro st
  have o168 := oX168 hL
  have r168_0 := rX168_0 hL
  have r168_1 := rX168_1 hL
  have r168_3 := rX168_3 hL
  have r168_4 := rX168_4 hL
  have r168_5 := rX168_5 hL
  have r168_6 := rX168_6 hL
  have r168_7 := rX168_7 hL
  have r168_8 := rX168_8 hL
  have r168_11 := rX168_11 hL
  have r168_13 := rX168_13 hL
  have r168_17 := rX168_17 hL
  have r168_18 := rX168_18 hL
  have r168_19 := rX168_19 hL
  have r168_21 := rX168_21 hL
  have r168_22 := rX168_22 hL
  have r168_23 := rX168_23 hL
  have r168_24 := rX168_24 hL
  have r168_25 := rX168_25 hL
  have r168_26 := rX168_26 hL
  have r168_27 := rX168_27 hL
  have r168_28 := rX168_28 hL
  have r168_29 := rX168_29 hL
  have r168_30 := rX168_30 hL
  have o179 := oX179 hL
  have o180 := oX180 hL
  induction st with
  | nil =>
    intro t X J ov hs hw hl ht h50 hM hf ho hy
    simp only [wtT, List.length_nil]
    refine wa_iload dX12_waiting_6 rfl ?_
    refine wa_if_le 116 dX12_waiting_8 (by decide) (by exact ⟨by omega, by omega⟩) (fun c_8 => ?_) (fun c_8 => ?_)
    · refine wa_aload_n dX12_waiting_116 rfl ?_
      refine wa_iconst dX12_waiting_117 ?_
      refine wt_putI dX12_waiting_118 FX12_166 (WX12_31 _ _) (by assumption) (by exact ⟨by omega, by omega⟩) ?_
      refine wa_iload dX12_waiting_121 rfl ?_
      refine wa_ireturn dX12_waiting_123 rfl ?_
      exact ⟨rfl, _, rfl, by unfold MT; rw [vup_n (by decide)]; exact hM, trivial, by rw [vup_s, vup_n (by decide)]; exact ho, by rw [vup_s, vup_s]; rfl, hf.trans' ⟨fun a a1 _ _ _ => vup_n a1, fun k _ k2 => by rw [vup_s, vup_n k2], fun k _ => by rw [vup_n (by decide)]⟩⟩
    · omega
  | cons q r ih =>
    intro t X J ov hs hw hl ht h50 hM hf ho hy
    obtain ⟨s1, s2, s3⟩ := hs
    obtain ⟨w1, w2⟩ := hw q List.mem_cons_self
    simp only [List.length_cons] at hl ⊢
    simp only [wtT]
    by_cases c : q.1 = 6 ∧ q.2 < 0
    · rw [if_pos c]
      generalize hV : va_up (va_up J 180 (va_up (J 180) r.length t)) 168 (va_up (J 168) 31 ((r.length + 1 : Nat) : Int)) = V
      have v168 : V 168 = va_up (J 168) 31 ((r.length + 1 : Nat) : Int) := by rw [← hV, vup_s]
      have v180 : V 180 = va_up (J 180) r.length t := by rw [← hV, vup_n (by decide), vup_s]
      have gV : ∀ a, a ≠ 168 → a ≠ 180 → V a = J a := fun a a1 a2 => by rw [← hV, vup_n a1, vup_n a2]
      have fin : WtPost S I L ((q.1, t) :: r, -1, X, ov) (some (tI (-1))) (S, V, L) := by
        refine ⟨rfl, V, rfl, by unfold MT; rw [gV 169 (by decide) (by decide)]; exact hM, ⟨by rw [gV 179 (by decide) (by decide)]; exact s1, by rw [v180, vup_s], s3.cg (fun i hi => ⟨by rw [gV 179 (by decide) (by decide)], by rw [v180, vup_n (by omega)]⟩)⟩, by rw [v168, vup_n (by decide)]; exact ho, by rw [v168, vup_s]; rfl, hf.trans' ⟨fun a a1 _ _ a4 => gV a a1 a4, fun k _ k2 => by rw [v168, vup_n k2], fun k _ => by rw [gV 169 (by decide) (by decide)]⟩⟩
      refine wa_iload dX12_waiting_6 rfl ?_
      refine wa_if_le 116 dX12_waiting_8 (by decide) (by exact ⟨by omega, by omega⟩) (fun c_8 => ?_) (fun c_8 => ?_)
      · omega
      · refine wa_aload_n dX12_waiting_11 rfl ?_
        refine wt_getR dX12_waiting_12 FX12_40 (by assumption) (by assumption) ?_
        refine wa_iload dX12_waiting_15 rfl ?_
        refine wa_iconst dX12_waiting_17 ?_
        refine wa_isub dX12_waiting_18 ?_
        refine wt_iald r.length dX12_waiting_19 (by assumption) (by omega) (by omega) ?_
        try first | rw [s1] | rw [s2] | skip
        refine wa_bipush dX12_waiting_20 rfl ?_
        refine wa_icmp_ne 56 dX12_waiting_22 (by decide) (by exact ⟨by omega, by omega⟩) (by exact ⟨by omega, by omega⟩) (fun c_22 => ?_) (fun c_22 => ?_)
        · omega
        · refine wa_aload_n dX12_waiting_25 rfl ?_
          refine wt_getR dX12_waiting_26 FX12_43 (by assumption) (by assumption) ?_
          refine wa_iload dX12_waiting_29 rfl ?_
          refine wa_iconst dX12_waiting_31 ?_
          refine wa_isub dX12_waiting_32 ?_
          refine wt_iald r.length dX12_waiting_33 (by assumption) (by omega) (by omega) ?_
          try first | rw [s1] | rw [s2] | skip
          refine wa_if_ge 56 dX12_waiting_34 (by decide) (by exact ⟨by omega, by omega⟩) (fun c_34 => ?_) (fun c_34 => ?_)
          · omega
          · refine wa_aload_n dX12_waiting_37 rfl ?_
            refine wt_getR dX12_waiting_38 FX12_43 (by assumption) (by assumption) ?_
            refine wa_iload dX12_waiting_41 rfl ?_
            refine wa_iconst dX12_waiting_43 ?_
            refine wa_isub dX12_waiting_44 ?_
            refine wa_iload dX12_waiting_45 rfl ?_
            refine wt_iast r.length dX12_waiting_47 (by assumption) (by omega) (by omega) (by exact ⟨by omega, by omega⟩) ?_
            refine wa_aload_n dX12_waiting_48 rfl ?_
            refine wa_iload dX12_waiting_49 rfl ?_
            refine wt_putI dX12_waiting_51 FX12_166 (WX12_31 _ _) (by assumption) (by exact ⟨by omega, by omega⟩) ?_
            rw [vup_n (show 168 ≠ 180 by decide), hV]
            refine wa_iconst dX12_waiting_54 ?_
            refine wa_ireturn dX12_waiting_55 rfl ?_
            exact fin
    · rw [if_neg c]
      have beh : ∀ (a b : Int) (K : Nat → Nat → Int), MT K (comeT X q.1 a b g).2.1 → BF J K → K 168 20 = ovI (ov || (comeT X q.1 a b g).2.2) → K 179 = J 179 → K 180 = J 180 → tmW kX12_waiting 3 0 0 105 [some (tR 168), some (tI dp), some (tI pt), some (tI g), some (tI t), some (tI (r.length : Nat))] [tI (comeT X q.1 a b g).1] (S, K, L) (WtPost S I L (wtT y g r (comeT X q.1 a b g).1 (mdY y (comeT X q.1 a b g).2.1 (comeT X q.1 a b g).1) (ov || (comeT X q.1 a b g).2.2))) := fun a b K k1 k2 k3 k4 k5 => by
        have hin := comeT_in h50 q.1 a b g
        generalize comeT X q.1 a b g = o at *
        have ky : K 168 32 = ovI y := by rw [k2.2.1 32 (by decide) (by decide)]; exact hy
        have km := c_mmade (I := K) (L := L) hL k1 hin.2.2.1 ky (t := o.1) ⟨hin.1, hin.2.1⟩
        have nx : ∀ W : Nat → Nat → Int, MT W (mdY y o.2.1 o.1) → BF K W → W 168 = K 168 → W 179 = K 179 → W 180 = K 180 → tmW kX12_waiting 3 0 0 6 [some (tR 168), some (tI dp), some (tI pt), some (tI g), some (tI o.1), some (tI (r.length : Nat))] [] (S, W, L) (WtPost S I L (wtT y g r o.1 (mdY y o.2.1 o.1) (ov || o.2.2))) := fun W w1' w2' w3' w4' w5' => by
          refine ih o.1 _ W _ (s3.cg (fun i _ => ⟨by rw [w4', k4], by rw [w5', k5]⟩)) (fun p hp => hw p (List.mem_cons_of_mem _ hp)) (by omega) (by rw [mdY_1]; exact ⟨hin.1, hin.2.1⟩) (by rw [mdY_1]; exact hin.2.2.1) w1' ((hf.trans' k2).trans' w2') (by rw [w3']; exact k3) (by rw [w3']; exact ky)
        refine wa_istore dX12_waiting_105 (by decide) ?_
        refine wa_aload_n dX12_waiting_107 rfl ?_
        refine wa_iload dX12_waiting_108 rfl ?_
        refine wa_callV (ci := 12) dX12_waiting_110 KX12_made LX12_169 ⟨_, _, rfl, by decide⟩ o168 (km) (by decide) rfl (Nat.le_of_ble_eq_true rfl) rfl rfl (fun r h' hq => ?_)
        obtain ⟨rfl, W, rfl, w1', w2', w3', w4', w5'⟩ := hq
        refine wa_goto 6 dX12_waiting_113 (by decide) ?_
        exact nx W w1' w2' w3' w4' w5'
      have el : ((r.length + 1 : Nat) : Int) + -1 = ((r.length : Nat) : Int) := by omega
      by_cases c6 : q.1 = 6
      · rw [if_pos c6, if_pos c6]
        have kc := c_mcomeT (I := J) (L := L) hL hM h50 q.1 q.2 t g ⟨by omega, by omega⟩ ⟨by omega, by omega⟩ ⟨by omega, by omega⟩ hg ho
        have bh := beh q.2 t
        rw [c6] at kc bh s1 ⊢
        refine wa_iload dX12_waiting_6 rfl ?_
        refine wa_if_le 116 dX12_waiting_8 (by decide) (by exact ⟨by omega, by omega⟩) (fun c_8 => ?_) (fun c_8 => ?_)
        · omega
        · refine wa_aload_n dX12_waiting_11 rfl ?_
          refine wt_getR dX12_waiting_12 FX12_40 (by assumption) (by assumption) ?_
          refine wa_iload dX12_waiting_15 rfl ?_
          refine wa_iconst dX12_waiting_17 ?_
          refine wa_isub dX12_waiting_18 ?_
          refine wt_iald r.length dX12_waiting_19 (by assumption) (by omega) (by omega) ?_
          try first | rw [s1] | rw [s2] | skip
          refine wa_bipush dX12_waiting_20 rfl ?_
          refine wa_icmp_ne 56 dX12_waiting_22 (by decide) (by exact ⟨by omega, by omega⟩) (by exact ⟨by omega, by omega⟩) (fun c_22 => ?_) (fun c_22 => ?_)
          · omega
          · refine wa_aload_n dX12_waiting_25 rfl ?_
            refine wt_getR dX12_waiting_26 FX12_43 (by assumption) (by assumption) ?_
            refine wa_iload dX12_waiting_29 rfl ?_
            refine wa_iconst dX12_waiting_31 ?_
            refine wa_isub dX12_waiting_32 ?_
            refine wt_iald r.length dX12_waiting_33 (by assumption) (by omega) (by omega) ?_
            try first | rw [s1] | rw [s2] | skip
            refine wa_if_ge 56 dX12_waiting_34 (by decide) (by exact ⟨by omega, by omega⟩) (fun c_34 => ?_) (fun c_34 => ?_)
            · refine wa_iinc dX12_waiting_56 rfl (by decide) ?_
              rw [el]
              refine wa_aload_n dX12_waiting_59 rfl ?_
              refine wt_getR dX12_waiting_60 FX12_40 (by assumption) (by assumption) ?_
              refine wa_iload dX12_waiting_63 rfl ?_
              refine wt_iald r.length dX12_waiting_65 (by assumption) (by omega) (by omega) ?_
              try first | rw [s1] | rw [s2] | skip
              refine wa_bipush dX12_waiting_66 rfl ?_
              refine wa_icmp_ne 90 dX12_waiting_68 (by decide) (by exact ⟨by omega, by omega⟩) (by exact ⟨by omega, by omega⟩) (fun c_68 => ?_) (fun c_68 => ?_)
              · omega
              · refine wa_aload_n dX12_waiting_71 rfl ?_
                refine wa_bipush dX12_waiting_72 rfl ?_
                refine wa_aload_n dX12_waiting_74 rfl ?_
                refine wt_getR dX12_waiting_75 FX12_43 (by assumption) (by assumption) ?_
                refine wa_iload dX12_waiting_78 rfl ?_
                refine wt_iald r.length dX12_waiting_80 (by assumption) (by omega) (by omega) ?_
                try first | rw [s1] | rw [s2] | skip
                refine wa_iload dX12_waiting_81 rfl ?_
                refine wa_iload_n dX12_waiting_83 rfl ?_
                refine wa_callV (ci := 12) dX12_waiting_84 KX12_comes LX12_119 ⟨_, _, rfl, by decide⟩ o168 (kc) (by decide) rfl (Nat.le_of_ble_eq_true rfl) rfl rfl (fun r h' hq => ?_)
                obtain ⟨rfl, K, rfl, k1, k2, k3, _, k4, k5⟩ := hq
                refine wa_goto 105 dX12_waiting_87 (by decide) ?_
                exact bh K k1 k2 k3 k4 k5
            · omega
      · rw [if_neg c6, if_neg c6]
        have kc := c_mcomeT (I := J) (L := L) hL hM h50 q.1 t (-1) g ⟨by omega, by omega⟩ ⟨by omega, by omega⟩ ⟨by omega, by omega⟩ hg ho
        have bh := beh t (-1)
        refine wa_iload dX12_waiting_6 rfl ?_
        refine wa_if_le 116 dX12_waiting_8 (by decide) (by exact ⟨by omega, by omega⟩) (fun c_8 => ?_) (fun c_8 => ?_)
        · omega
        · refine wa_aload_n dX12_waiting_11 rfl ?_
          refine wt_getR dX12_waiting_12 FX12_40 (by assumption) (by assumption) ?_
          refine wa_iload dX12_waiting_15 rfl ?_
          refine wa_iconst dX12_waiting_17 ?_
          refine wa_isub dX12_waiting_18 ?_
          refine wt_iald r.length dX12_waiting_19 (by assumption) (by omega) (by omega) ?_
          try first | rw [s1] | rw [s2] | skip
          refine wa_bipush dX12_waiting_20 rfl ?_
          refine wa_icmp_ne 56 dX12_waiting_22 (by decide) (by exact ⟨by omega, by omega⟩) (by exact ⟨by omega, by omega⟩) (fun c_22 => ?_) (fun c_22 => ?_)
          · refine wa_iinc dX12_waiting_56 rfl (by decide) ?_
            rw [el]
            refine wa_aload_n dX12_waiting_59 rfl ?_
            refine wt_getR dX12_waiting_60 FX12_40 (by assumption) (by assumption) ?_
            refine wa_iload dX12_waiting_63 rfl ?_
            refine wt_iald r.length dX12_waiting_65 (by assumption) (by omega) (by omega) ?_
            try first | rw [s1] | rw [s2] | skip
            refine wa_bipush dX12_waiting_66 rfl ?_
            refine wa_icmp_ne 90 dX12_waiting_68 (by decide) (by exact ⟨by omega, by omega⟩) (by exact ⟨by omega, by omega⟩) (fun c_68 => ?_) (fun c_68 => ?_)
            · refine wa_aload_n dX12_waiting_90 rfl ?_
              refine wa_aload_n dX12_waiting_91 rfl ?_
              refine wt_getR dX12_waiting_92 FX12_40 (by assumption) (by assumption) ?_
              refine wa_iload dX12_waiting_95 rfl ?_
              refine wt_iald r.length dX12_waiting_97 (by assumption) (by omega) (by omega) ?_
              try first | rw [s1] | rw [s2] | skip
              refine wa_iload dX12_waiting_98 rfl ?_
              refine wa_iconst dX12_waiting_100 ?_
              refine wa_iload_n dX12_waiting_101 rfl ?_
              refine wa_callV (ci := 12) dX12_waiting_102 KX12_comes LX12_119 ⟨_, _, rfl, by decide⟩ o168 (kc) (by decide) rfl (Nat.le_of_ble_eq_true rfl) rfl rfl (fun r h' hq => ?_)
              obtain ⟨rfl, K, rfl, k1, k2, k3, _, k4, k5⟩ := hq
              exact bh K k1 k2 k3 k4 k5
            · omega
          · omega
set_option maxRecDepth 20000 in
theorem c_mwaiting (hL : LX S) {y : Bool} {g : Int} (hg : inR g) {st : WSt} {t : Int} {X : TS} {ov : Bool} (hs : SkW I st) (hw : WOK st) (hl : st.length ≤ 120) (ht : 0 ≤ t ∧ t < X.1) (h50 : X.1 ≤ 50) (hM : MT I X) (ho : I 168 20 = ovI ov) (hy : I 168 32 = ovI y) : tmC yX12_waiting kX12_waiting 3 0 0 [tR 168, tI (st.length : Nat), tI t, tI g] (S, I, L) (WtPost S I L (wtT y g st t X ov)) := by
  refine tmC.mk (lv := [some (tR 168), some (tI (st.length : Nat)), some (tI t), some (tI g), none, none]) 2 ⟨rfl, by decide +kernel, by decide⟩ rfl rfl ?_
  have lp := mwait_loop (I := I) (L := L) hL (y := y) hg (dp := (st.length : Nat)) (pt := t) st t X I ov hs hw hl ht h50 hM BF.rfl' ho hy
  refine wa_iload_n dX12_waiting_0 rfl ?_
  refine wa_istore dX12_waiting_1 (by decide) ?_
  refine wa_iload_n dX12_waiting_3 rfl ?_
  refine wa_istore dX12_waiting_4 (by decide) ?_
  exact lp
-- what waits stays well, TERMS stay within
set_option maxRecDepth 20000 in
theorem wtT_ok {y : Bool} {g : Int} : ∀ (st : WSt) (t : Int) (X : TS) (ov : Bool), WOK st → X.1 ≤ 50 → 0 ≤ t ∧ t < X.1 → WOK (wtT y g st t X ov).1 ∧ (wtT y g st t X ov).1.length ≤ st.length ∧ (wtT y g st t X ov).2.2.1.1 ≤ 50 ∧ X.1 ≤ (wtT y g st t X ov).2.2.1.1 ∧ -1 ≤ (wtT y g st t X ov).2.1 ∧ (wtT y g st t X ov).2.1 < (wtT y g st t X ov).2.2.1.1 := by
  intro st
  induction st with
  | nil => intro t X ov hw h50 ht; simp only [wtT]; exact ⟨hw, Nat.le_refl _, h50, Nat.le_refl _, by omega, by omega⟩
  | cons q r ih =>
    intro t X ov hw h50 ht
    simp only [wtT]
    have q1 := hw q List.mem_cons_self
    by_cases c : q.1 = 6 ∧ q.2 < 0
    · rw [if_pos c]
      refine ⟨fun p hp => ?_, by simp, h50, Nat.le_refl _, by simp only; omega, by simp only; omega⟩
      rcases List.mem_cons.mp hp with e | e
      · rw [e]; exact ⟨q1.1, by simp only; omega⟩
      · exact hw p (List.mem_cons_of_mem _ e)
    · rw [if_neg c]
      have hin := comeT_in h50 q.1 (if q.1 = 6 then q.2 else t) (if q.1 = 6 then t else -1) g
      generalize comeT X q.1 (if q.1 = 6 then q.2 else t) (if q.1 = 6 then t else -1) g = o at *
      obtain ⟨a, b, c1, d, e, f⟩ := ih o.1 (mdY y o.2.1 o.1) (ov || o.2.2) (fun p hp => hw p (List.mem_cons_of_mem _ hp)) (by rw [mdY_1]; exact hin.2.2.1) (by rw [mdY_1]; exact ⟨hin.1, hin.2.1⟩)
      rw [mdY_1] at d
      exact ⟨a, by rw [List.length_cons]; omega, c1, by omega, e, f⟩
end S99n
