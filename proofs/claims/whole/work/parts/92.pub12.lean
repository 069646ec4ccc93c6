/-! ===== 92: TriggerMatches: writing ===== -/
/-- what is written, the next thing first -/
def outW (sg on ot : Nat → Int) : Nat → List Int → List Int
  | 0, _ => []
  | _ + 1, [] => []
  | k + 1, x :: st => if 0 ≤ x then sgI (sg x.toNat).toNat :: outW sg on ot k ((wrL (sg x.toNat) (on x.toNat) (ot x.toNat)).reverse ++ st) else (-1 - x) :: outW sg on ot k st
def stk (st : Nat → Int) : Nat → List Int
  | 0 => []
  | d + 1 => st d :: stk st d
theorem stk_cg {st st' : Nat → Int} : ∀ d, (∀ j, j < d → st' j = st j) → stk st' d = stk st d := by
  intro d
  induction d with
  | zero => intro _; rfl
  | succ d ih => intro h; simp only [stk]; rw [h d (by omega), ih (fun j hj => h j (by omega))]
theorem skPush_lo : ∀ (l : List Int) (st : Nat → Int) (dp : Nat), ∀ j, j < dp → skPush st dp l j = st j := by
  intro l
  induction l with
  | nil => intro st dp j _; rfl
  | cons x l ih => intro st dp j hj; simp only [skPush]; rw [ih _ _ j (by omega), vup_n (by omega)]
theorem stk_push : ∀ (l : List Int) (st : Nat → Int) (dp : Nat), stk (skPush st dp l) (dp + l.length) = l.reverse ++ stk st dp := by
  intro l
  induction l with
  | nil => intro st dp; rfl
  | cons x l ih =>
    intro st dp
    simp only [skPush, List.length_cons, List.reverse_cons, List.append_assoc]
    rw [show dp + (l.length + 1) = dp + 1 + l.length by omega, ih]
    congr 1
    simp only [stk, vup_s, List.singleton_append]
    rw [stk_cg dp (fun j hj => vup_n (by omega))]
theorem wrR_out {sg on ot : Nat → Int} : ∀ (k dp : Nat) (st : Nat → Int) (ln : Nat) (pg : Nat → Int), (wrR sg on ot k dp st ln pg).1 = ln + (outW sg on ot k (stk st dp)).length ∧ (∀ j, j < ln → (wrR sg on ot k dp st ln pg).2 j = pg j) ∧ ∀ j, j < (outW sg on ot k (stk st dp)).length → (wrR sg on ot k dp st ln pg).2 (ln + j) = (outW sg on ot k (stk st dp)).getD j 0 := by
  intro k
  induction k with
  | zero => intro dp st ln pg; exact ⟨rfl, fun _ _ => rfl, fun j hj => by simp [outW] at hj⟩
  | succ k ih =>
    intro dp st ln pg
    cases dp with
    | zero => exact ⟨rfl, fun _ _ => rfl, fun j hj => by simp [outW, stk] at hj⟩
    | succ dp =>
      simp only [wrR, stk, outW]
      by_cases c : 0 ≤ st dp
      · rw [if_pos c, if_pos c]
        obtain ⟨a1, a2, a3⟩ := ih (dp + (wrL (sg (st dp).toNat) (on (st dp).toNat) (ot (st dp).toNat)).length) (skPush st dp (wrL (sg (st dp).toNat) (on (st dp).toNat) (ot (st dp).toNat))) (ln + 1) (va_up pg ln (sgI (sg (st dp).toNat).toNat))
        rw [stk_push] at a1 a3
        refine ⟨by rw [a1, List.length_cons]; omega, fun j hj => by rw [a2 j (by omega), vup_n (by omega)], fun j hj => ?_⟩
        cases j with
        | zero => exact (a2 ln (by omega)).trans (by rw [vup_s]; rfl)
        | succ j => rw [List.length_cons] at hj; rw [show ln + (j + 1) = ln + 1 + j by omega, a3 j (by omega), List.getD_cons_succ]
      · rw [if_neg c, if_neg c]
        obtain ⟨a1, a2, a3⟩ := ih dp st (ln + 1) (va_up pg ln (-1 - st dp))
        refine ⟨by rw [a1, List.length_cons]; omega, fun j hj => by rw [a2 j (by omega), vup_n (by omega)], fun j hj => ?_⟩
        cases j with
        | zero => exact (a2 ln (by omega)).trans (by rw [vup_s]; rfl)
        | succ j => rw [List.length_cons] at hj; rw [show ln + (j + 1) = ln + 1 + j by omega, a3 j (by omega), List.getD_cons_succ]
theorem outW_len {sg on ot : Nat → Int} : ∀ (k : Nat) (st : List Int), (outW sg on ot k st).length ≤ k := by
  intro k
  induction k with
  | zero => intro st; simp [outW]
  | succ k ih =>
    intro st
    cases st with
    | nil => simp [outW]
    | cons x st =>
      simp only [outW]
      split
      · rw [List.length_cons]; have := ih ((wrL (sg x.toNat) (on x.toNat) (ot x.toNat)).reverse ++ st); omega
      · rw [List.length_cons]; have := ih st; omega
theorem outW_cg {X Y : TS} (hX : TsOK X) (h : TsEq X Y) : ∀ (k : Nat) (st : List Int), (∀ x ∈ st, x < X.1) → outW Y.2.1 Y.2.2.1 Y.2.2.2.1 k st = outW X.2.1 X.2.2.1 X.2.2.2.1 k st := by
  intro k
  induction k with
  | zero => intro st _; rfl
  | succ k ih =>
    intro st hs
    cases st with
    | nil => rfl
    | cons x st =>
      have hx := hs x List.mem_cons_self
      simp only [outW]
      by_cases c : 0 ≤ x
      · rw [if_pos c, if_pos c]
        obtain ⟨e1, e2, e3, _⟩ := h.2 x.toNat (by omega)
        rw [e1, e2, e3, ih _ (fun y hy => ?_)]
        rcases List.mem_append.mp hy with q | q
        · rw [List.mem_reverse] at q
          obtain ⟨_, _, w3, w4, w5, w6, _⟩ := hX.2.1 x.toNat (by omega)
          unfold wrL at q
          split at q
          · cases q
          · split at q
            · simp only [List.mem_cons, List.not_mem_nil, or_false] at q
              omega
            · simp only [List.mem_cons, List.not_mem_nil, or_false] at q
              omega
        · exact hs y (List.mem_cons_of_mem _ q)
      · rw [if_neg c, if_neg c, ih st (fun y hy => hs y (List.mem_cons_of_mem _ hy))]
abbrev outX (X : TS) (t : Nat) : List Int := outW X.2.1 X.2.2.1 X.2.2.2.1 300 [(t : Int)]
def spWriting (A : AS) (t k : Int) : Int × AS := if isT A t ∧ -1 ≤ k then ((if k = -1 then ((outX A.1.1 t.toNat).length : Int) else if k < (outX A.1.1 t.toNat).length then (outX A.1.1 t.toNat).getD k.toNat 0 else -5), A) else (-10, aRf A 0)
section S92
variable {S : tmS} {I : Nat → Nat → Int} {L : Nat → Nat → Int64}
set_option maxRecDepth 20000 in
theorem c_writing {m : Nat} {A : AS} (h : CR S I L m A) (hm : m ≤ 1000) (t k : Int) (ht : inR t) (hk : inR k) : tmC yX11_writing kX11_writing 7 0 0 [tR 0, tI t, tI k] (S, I, L) (CPost S I (m + 1) (tI (spWriting A t k).1) (spWriting A t k).2) := by
  refine tmC.mk (lv := [some (tR 0), some (tI t), some (tI k), none]) 1 ⟨rfl, by decide +kernel, by decide⟩ rfl rfl ?_
  have hL := h.1
  have hT := h.2.1.tinv
  have hn5 := hT.2.1
  have o0 := oX0 hL
  have r0_0 := rX0_0 hL
  have r0_1 := rX0_1 hL
  have r0_2 := rX0_2 hL
  have r0_3 := rX0_3 hL
  have r0_4 := rX0_4 hL
  have r0_5 := rX0_5 hL
  have r0_6 := rX0_6 hL
  have r0_7 := rX0_7 hL
  have r0_8 := rX0_8 hL
  have o1 := oX1 hL
  have r1_0 := rX1_0 hL
  have r1_1 := rX1_1 hL
  have r1_3 := rX1_3 hL
  have o2 := oX2 hL
  have r2_1 := rX2_1 hL
  have r2_2 := rX2_2 hL
  have r2_3 := rX2_3 hL
  have r2_4 := rX2_4 hL
  have r2_5 := rX2_5 hL
  have o164 := oX164 hL
  have r164_0 := rX164_0 hL
  have r164_1 := rX164_1 hL
  have o165 := oX165 hL
  have k1 := c_has (L := L) hL hT.1 t ht
  have hrf := c_rf0 h hm
  by_cases c1 : isT A t
  · rw [if_pos c1] at k1
    obtain ⟨tt, rfl⟩ : ∃ tt : Nat, t = (tt : Int) := ⟨t.toNat, by have := c1.1; omega⟩
    have htt : tt < A.1.1.1 := by have := c1.2; omega
    by_cases c2 : -1 ≤ k
    · have kw := c_write (L := L) hL hn5 htt hT.1 hT.2.2.1
      obtain ⟨z1, z2, z3⟩ := wrR_out (sg := I 3) (on := I 4) (ot := I 5) 300 1 (va_up (I 166) 0 (tt : Int)) 0 (I 165)
      have est : stk (va_up (I 166) 0 (tt : Int)) 1 = [(tt : Int)] := by simp only [stk, vup_s]
      have ecg := outW_cg h.2.1.2.1.1 h.2.1.1.ts 300 [(tt : Int)] (fun x hx => by rw [List.mem_singleton.mp hx]; omega)
      have ecg : outW (I 3) (I 4) (I 5) 300 [(tt : Int)] = outX A.1.1 tt := ecg
      rw [est, ecg] at z1 z3
      have hlen : (outX A.1.1 tt).length ≤ 300 := outW_len 300 _
      rw [Nat.zero_add] at z1
      have e : spWriting A tt k = ((if k = -1 then ((outX A.1.1 tt).length : Int) else if k < (outX A.1.1 tt).length then (outX A.1.1 tt).getD k.toNat 0 else -5), A) := by unfold spWriting; rw [if_pos ⟨c1, c2⟩]; rfl
      rw [e]
      have rest : ∀ I' : Nat → Nat → Int, (∀ a, a ≠ 164 → a ≠ 165 → a ≠ 166 → I' a = I a) → I' 165 = (wrR (I 3) (I 4) (I 5) 300 1 (va_up (I 166) 0 (tt : Int)) 0 (I 165)).2 → tmW kX11_writing 7 0 0 44 [some (tR 0), some (tI tt), some (tI k), none] [tI ((outX A.1.1 tt).length : Nat)] (S, I', L) (CPost S I (m + 1) (tI (if k = -1 then ((outX A.1.1 tt).length : Int) else if k < (outX A.1.1 tt).length then (outX A.1.1 tt).getD k.toNat 0 else -5)) A) := by
        intro I' e1 e2
        obtain ⟨s1, s2⟩ := h.scr (I' := I') (L' := L) (m' := m + 1) (by omega) (fun a ha => e1 a (by omega) (by omega) (by omega)) rfl
        by_cases z : k = -1
        · rw [if_pos z]
          refine wa_istore_n dX11_writing_44 (by decide) ?_
          refine wa_iload_n dX11_writing_45 rfl ?_
          refine wa_iconst dX11_writing_46 ?_
          refine wa_icmp_ne 52 dX11_writing_47 (by decide) (by first | exact hk | exact ⟨by omega, by omega⟩) (by first | exact hk | exact ⟨by omega, by omega⟩) (fun c_47 => ?_) (fun c_47 => ?_)
          · omega
          · refine wa_iload_n dX11_writing_50 rfl ?_
            refine wa_ireturn dX11_writing_51 rfl ?_
            exact ⟨rfl, S, I', L, rfl, s1, s2⟩
        · rw [if_neg z]
          by_cases y : k < (outX A.1.1 tt).length
          · rw [if_pos y]
            have ev := z3 k.toNat (by omega)
            rw [Nat.zero_add, ← e2] at ev
            refine wa_istore_n dX11_writing_44 (by decide) ?_
            refine wa_iload_n dX11_writing_45 rfl ?_
            refine wa_iconst dX11_writing_46 ?_
            refine wa_icmp_ne 52 dX11_writing_47 (by decide) (by first | exact hk | exact ⟨by omega, by omega⟩) (by first | exact hk | exact ⟨by omega, by omega⟩) (fun c_47 => ?_) (fun c_47 => ?_)
            · refine wa_iload_n dX11_writing_52 rfl ?_
              refine wa_iload_n dX11_writing_53 rfl ?_
              refine wa_icmp_ge 69 dX11_writing_54 (by decide) (by first | exact hk | exact ⟨by omega, by omega⟩) (by first | exact hk | exact ⟨by omega, by omega⟩) (fun c_54 => ?_) (fun c_54 => ?_)
              · omega
              · refine wa_aload_n dX11_writing_57 rfl ?_
                refine wt_getR dX11_writing_58 FX11_73 (by assumption) (by assumption) ?_
                refine wt_getR dX11_writing_61 FX11_236 (by assumption) (by assumption) ?_
                refine wa_iload_n dX11_writing_64 rfl ?_
                refine wt_iald k.toNat dX11_writing_65 (by assumption) (by omega) (by omega) ?_
                refine wa_goto 71 dX11_writing_66 (by decide) ?_
                refine wa_ireturn dX11_writing_71 rfl ?_
                exact ⟨by rw [ev], S, I', L, rfl, s1, s2⟩
            · omega
          · rw [if_neg y]
            refine wa_istore_n dX11_writing_44 (by decide) ?_
            refine wa_iload_n dX11_writing_45 rfl ?_
            refine wa_iconst dX11_writing_46 ?_
            refine wa_icmp_ne 52 dX11_writing_47 (by decide) (by first | exact hk | exact ⟨by omega, by omega⟩) (by first | exact hk | exact ⟨by omega, by omega⟩) (fun c_47 => ?_) (fun c_47 => ?_)
            · refine wa_iload_n dX11_writing_52 rfl ?_
              refine wa_iload_n dX11_writing_53 rfl ?_
              refine wa_icmp_ge 69 dX11_writing_54 (by decide) (by first | exact hk | exact ⟨by omega, by omega⟩) (by first | exact hk | exact ⟨by omega, by omega⟩) (fun c_54 => ?_) (fun c_54 => ?_)
              · refine wa_bipush dX11_writing_69 rfl ?_
                refine wa_ireturn dX11_writing_71 rfl ?_
                exact ⟨rfl, S, I', L, rfl, s1, s2⟩
              · omega
            · omega
      refine wa_aload_n dX11_writing_0 rfl ?_
      refine wt_getR dX11_writing_1 FX11_10 (by assumption) (by assumption) ?_
      refine wt_getR dX11_writing_4 FX11_32 (by assumption) (by assumption) ?_
      refine wa_iload_n dX11_writing_7 rfl ?_
      refine wa_callVf (ci := 8) dX11_writing_8 KX8_has LX11_92 ⟨_, _, rfl, by decide⟩ o2 (k1) (by decide) rfl rfl (Nat.le_of_ble_eq_true rfl) rfl rfl ?_
      refine wa_if_eq 19 dX11_writing_11 (by decide) (by first | exact hk | exact ⟨by omega, by omega⟩) (fun c_11 => ?_) (fun c_11 => ?_)
      · omega
      · refine wa_iload_n dX11_writing_14 rfl ?_
        refine wa_iconst dX11_writing_15 ?_
        refine wa_icmp_ge 29 dX11_writing_16 (by decide) (by first | exact hk | exact ⟨by omega, by omega⟩) (by first | exact hk | exact ⟨by omega, by omega⟩) (fun c_16 => ?_) (fun c_16 => ?_)
        · refine wa_aload_n dX11_writing_29 rfl ?_
          refine wt_getR dX11_writing_30 FX11_73 (by assumption) (by assumption) ?_
          refine wa_aload_n dX11_writing_33 rfl ?_
          refine wt_getR dX11_writing_34 FX11_10 (by assumption) (by assumption) ?_
          refine wt_getR dX11_writing_37 FX11_32 (by assumption) (by assumption) ?_
          refine wa_iload_n dX11_writing_40 rfl ?_
          refine wa_callV (ci := 10) dX11_writing_41 KX10_write LX11_233 ⟨_, _, rfl, by decide⟩ o164 (kw) (by decide) rfl (Nat.le_of_ble_eq_true rfl) rfl rfl (fun r h' hq => ?_)
          obtain ⟨I', rfl, rfl, e1, e2⟩ := hq
          have eq1 : (wrT (I 3) (I 4) (I 5) (I 166) (I 165) tt).1 = (outX A.1.1 tt).length := z1
          rw [eq1]
          exact rest I' e1 e2
        · omega
    · have e : spWriting A tt k = (-10, aRf A 0) := by unfold spWriting; rw [if_neg (fun z => c2 z.2)]
      rw [e]
      refine wa_aload_n dX11_writing_0 rfl ?_
      refine wt_getR dX11_writing_1 FX11_10 (by assumption) (by assumption) ?_
      refine wt_getR dX11_writing_4 FX11_32 (by assumption) (by assumption) ?_
      refine wa_iload_n dX11_writing_7 rfl ?_
      refine wa_callVf (ci := 8) dX11_writing_8 KX8_has LX11_92 ⟨_, _, rfl, by decide⟩ o2 (k1) (by decide) rfl rfl (Nat.le_of_ble_eq_true rfl) rfl rfl ?_
      refine wa_if_eq 19 dX11_writing_11 (by decide) (by first | exact hk | exact ⟨by omega, by omega⟩) (fun c_11 => ?_) (fun c_11 => ?_)
      · omega
      · refine wa_iload_n dX11_writing_14 rfl ?_
        refine wa_iconst dX11_writing_15 ?_
        refine wa_icmp_ge 29 dX11_writing_16 (by decide) (by first | exact hk | exact ⟨by omega, by omega⟩) (by first | exact hk | exact ⟨by omega, by omega⟩) (fun c_16 => ?_) (fun c_16 => ?_)
        · omega
        · refine wa_aload_n dX11_writing_19 rfl ?_
          refine wa_bipush dX11_writing_20 rfl ?_
          refine wa_callV (ci := 11) dX11_writing_22 KX11_refuse LX11_88 ⟨_, _, rfl, by decide⟩ o0 (hrf) (by decide) rfl (Nat.le_of_ble_eq_true rfl) rfl rfl (fun r h' hq => ?_)
          obtain ⟨rfl, S2, I2, L2, rfl, q1, q2⟩ := hq
          refine wa_pop dX11_writing_25 rfl ?_
          refine wa_bipush dX11_writing_26 rfl ?_
          refine wa_ireturn dX11_writing_28 rfl ?_
          exact ⟨rfl, S2, I2, L2, rfl, q1, q2⟩
  · rw [if_neg c1] at k1
    have e : spWriting A t k = (-10, aRf A 0) := by unfold spWriting; rw [if_neg (fun z => c1 z.1)]
    rw [e]
    refine wa_aload_n dX11_writing_0 rfl ?_
    refine wt_getR dX11_writing_1 FX11_10 (by assumption) (by assumption) ?_
    refine wt_getR dX11_writing_4 FX11_32 (by assumption) (by assumption) ?_
    refine wa_iload_n dX11_writing_7 rfl ?_
    refine wa_callVf (ci := 8) dX11_writing_8 KX8_has LX11_92 ⟨_, _, rfl, by decide⟩ o2 (k1) (by decide) rfl rfl (Nat.le_of_ble_eq_true rfl) rfl rfl ?_
    refine wa_if_eq 19 dX11_writing_11 (by decide) (by first | exact hk | exact ⟨by omega, by omega⟩) (fun c_11 => ?_) (fun c_11 => ?_)
    · refine wa_aload_n dX11_writing_19 rfl ?_
      refine wa_bipush dX11_writing_20 rfl ?_
      refine wa_callV (ci := 11) dX11_writing_22 KX11_refuse LX11_88 ⟨_, _, rfl, by decide⟩ o0 (hrf) (by decide) rfl (Nat.le_of_ble_eq_true rfl) rfl rfl (fun r h' hq => ?_)
      obtain ⟨rfl, S2, I2, L2, rfl, q1, q2⟩ := hq
      refine wa_pop dX11_writing_25 rfl ?_
      refine wa_bipush dX11_writing_26 rfl ?_
      refine wa_ireturn dX11_writing_28 rfl ?_
      exact ⟨rfl, S2, I2, L2, rfl, q1, q2⟩
    · omega
end S92
