/-! ===== 99zc: the reference: side, the loop ===== -/
/-- while a side is read into a row -/
def SdJ (ρ : Nat) (I J : Nat → Nat → Int) (p : Nat) (nd : List Nat) (w : List Int) : Prop := SF ρ I J ∧ J 168 10 = (p : Int) ∧ J 168 15 = (w.length : Int) ∧ J 168 16 = ((letW w : Nat) : Int) ∧ (∀ i, i < w.length → J ρ i = w.getD i 0) ∧ NdW J nd ∧ N12 nd ∧ w.length ≤ p ∧ nd.length ≤ p ∧ ∀ s ∈ w, s ≤ 9
/-- a side read -/
def SdR (ρ : Nat) (I J : Nat → Nat → Int) (R : Bool × Nat × List Int) : Prop := SF ρ I J ∧ J 168 10 = (R.2.1 : Int) ∧ (R.1 = true → J 168 15 = (R.2.2.length : Int) ∧ J 168 16 = ((letW R.2.2 : Nat) : Int) ∧ ∀ i, i < R.2.2.length → J ρ i = R.2.2.getD i 0)
abbrev SdPost (S : tmS) (I : Nat → Nat → Int) (L : Nat → Nat → Int64) (ρ : Nat) (R : Bool × Nat × List Int) : Option tmV → tmH → Prop := fun q h' => q = some (tI (if R.1 = true then 1 else 0)) ∧ ∃ J, h' = (S, J, L) ∧ SdR ρ I J R
set_option maxRecDepth 20000 in
theorem getD_snoc {w : List Int} {s : Int} {i : Nat} (h : i < w.length) : (w ++ [s]).getD i 0 = w.getD i 0 := by
  rw [List.getD_eq_getElem?_getD, List.getD_eq_getElem?_getD, List.getElem?_append_left h]
set_option maxRecDepth 20000 in
theorem getD_last {w : List Int} {s : Int} : (w ++ [s]).getD w.length 0 = s := by
  rw [List.getD_eq_getElem?_getD, List.getElem?_append_right (Nat.le_refl _), Nat.sub_self]; rfl
section S99zc
variable {S : tmS} {I : Nat → Nat → Int} {L : Nat → Nat → Int64}
-- from pc 110: a sign has been taken
set_option maxRecDepth 20000 in
theorem side_110 (hL : LX S) {n : Nat} (hn : I 168 9 = (n : Int)) (hn1 : n ≤ 120) {ρ : Nat} (hρ : ρ = 177 ∨ ρ = 178) {may : Nat} {k : Nat} {nd : List Nat} {w : List Int} {q : Nat} {s : Int} (hs : 0 ≤ s ∧ s ≤ 9)
    (ih : ∀ (p : Nat) (nd : List Nat) (w : List Int) (J : Nat → Nat → Int) (x4 x5 : Option tmV), n + 1 ≤ p + k → p ≤ n → SdJ ρ I J p nd w → tmW kX12_side 4 0 0 12 [some (tR 168), some (tR ρ), some (tI may), some (tI (nd.length : Nat)), x4, x5] [] (S, J, L) (SdPost S I L ρ (sdW (I 176) n may k nd w p)))
    (hq : q + 1 ≤ n) (hk : n ≤ q + k) {J : Nat → Nat → Int} (h : SdJ ρ I J (q + 1) nd w) (hnd : nd.length ≤ q) (x5 : Option tmV) (Q : Option tmV → tmH → Prop)
    (e1 : 4 ≤ s ∧ s ≤ 6 → Q = SdPost S I L ρ (if tkB (I 176) n (q + 1) 40 then sdW (I 176) n may k ((if s = 6 then 2 else 1) :: nd) w (tkP (I 176) n (q + 1) 40) else (false, tkP (I 176) n (q + 1) 40, w)))
    (e2 : ¬ (4 ≤ s ∧ s ≤ 6) → Q = SdPost S I L ρ (if (clW (I 176) n nd (q + 1)).1 = false then (false, (clW (I 176) n nd (q + 1)).2.2, w) else if (clW (I 176) n nd (q + 1)).2.1 = [] then (true, (clW (I 176) n nd (q + 1)).2.2, w) else sdW (I 176) n may k (clW (I 176) n nd (q + 1)).2.1 w (clW (I 176) n nd (q + 1)).2.2)) :
    tmW kX12_side 4 0 0 110 [some (tR 168), some (tR ρ), some (tI may), some (tI (nd.length : Nat)), some (tI s), x5] [] (S, J, L) Q := by
  obtain ⟨s1, s2, s3, s4, s5, s6, s7, s8, s9, s10⟩ := id h
  have o168 := oX168 hL
  have r168_0 := rX168_0 hL
  have r168_1 := rX168_1 hL
  have r168_3 := rX168_3 hL
  have r168_4 := rX168_4 hL
  have r168_5 := rX168_5 hL
  have r168_6 := rX168_6 hL
  have r168_7 := rX168_7 hL
  have r168_8 := rX168_8 hL
  have r168_11 := rX168_11 hL
  have r168_13 := rX168_13 hL
  have r168_17 := rX168_17 hL
  have r168_18 := rX168_18 hL
  have r168_19 := rX168_19 hL
  have r168_21 := rX168_21 hL
  have r168_22 := rX168_22 hL
  have r168_23 := rX168_23 hL
  have r168_24 := rX168_24 hL
  have r168_25 := rX168_25 hL
  have r168_26 := rX168_26 hL
  have r168_27 := rX168_27 hL
  have r168_28 := rX168_28 hL
  have r168_29 := rX168_29 hL
  have r168_30 := rX168_30 hL
  have o181 := oX181 hL
  have r8 : ρ ≠ 168 := by omega
  have r1 : ρ ≠ 181 := by omega
  have r6 : 176 ≠ ρ := by omega
  have j9 : J 168 9 = (n : Int) := by rw [s1.2 9 (by decide) (by decide) (by decide)]; exact hn
  have j176 : J 176 = I 176 := s1.1 176 (by decide) r6 (by decide)
  have ka := c_marity (h := (S, J, L)) s ⟨by omega, by omega⟩
  by_cases c : 4 ≤ s ∧ s ≤ 6
  · rw [e1 c]
    have ea : arX s = ((if s = 6 then 2 else 1 : Nat) : Int) := by
      unfold arX
      rw [if_neg (by omega)]
      by_cases y : s = 6
      · rw [if_neg (by omega), if_pos y]; rfl
      · rw [if_pos (by omega), if_neg y]; rfl
    have ep : 0 < arX s ∧ arX s ≤ 2 := by rw [ea]; split <;> omega
    have ki := c_mis (I := J) (L := L) hL (p := q + 1) j9 hn1 s2 hq 40 ⟨by decide, by decide⟩
    rw [j176] at ki
    have tb := tkP_b (b := I 176) (n := n) hq (c := 40) (by decide)
    by_cases z : tkB (I 176) n (q + 1) 40
    · rw [if_pos z] at ki ⊢
      have tb2 := tb.2.2 z
      have ka2 := c_marity (h := (S, atQ J (tkP (I 176) n (q + 1) 40), L)) s ⟨by omega, by omega⟩
      have nx := ih (tkP (I 176) n (q + 1) 40) ((if s = 6 then 2 else 1) :: nd) w (va_up (atQ J (tkP (I 176) n (q + 1) 40)) 181 (va_up (atQ J (tkP (I 176) n (q + 1) 40) 181) nd.length (arX s))) (some (tI s)) x5 (by omega) tb.2.1 (by
        have nf : NF J (va_up (atQ J (tkP (I 176) n (q + 1) 40)) 181 (va_up (atQ J (tkP (I 176) n (q + 1) 40) 181) nd.length (arX s))) := (NF.at _).trans' (NF.nd _ _)
        refine ⟨s1.trans' nf.sf, by rw [vup_n (by decide)]; exact atQ_10, by rw [nf.2 15 (by decide)]; exact s3, by rw [nf.2 16 (by decide)]; exact s4, fun i hi => by rw [nf.1 ρ r8 r1]; exact s5 i hi, ⟨by rw [vup_s, vup_s]; exact ea, s6.cg (fun i hi => by rw [vup_s, vup_n (by omega), atQ_n (by decide)])⟩, fun m hm => ?_, by omega, by simp only [List.length_cons]; omega, s10⟩
        rcases List.mem_cons.mp hm with e | e
        · rw [e]; split
          · exact Or.inr rfl
          · exact Or.inl rfl
        · exact s7 m e)
      simp only [List.length_cons] at nx
      refine wa_iload dX12_side_110 rfl ?_
      refine wa_callSf dX12_side_112 KX12_arity LX12_106 (ka) (by decide) rfl rfl (Nat.le_of_ble_eq_true rfl) rfl rfl ?_
      refine wa_if_le 146 dX12_side_115 (by decide) (by first | exact ⟨by omega, by omega⟩) (fun c_115 => ?_) (fun c_115 => ?_)
      · omega
      · refine wa_aload_n dX12_side_118 rfl ?_
        refine wa_bipush dX12_side_119 rfl ?_
        refine wa_callVf (ci := 12) dX12_side_121 KX12_is LX12_213 ⟨_, _, rfl, by decide⟩ o168 (ki) (by decide) rfl rfl (Nat.le_of_ble_eq_true rfl) rfl rfl ?_
        refine wa_if_ne 129 dX12_side_124 (by decide) (by first | exact ⟨by omega, by omega⟩) (fun c_124 => ?_) (fun c_124 => ?_)
        · refine wa_aload_n dX12_side_129 rfl ?_
          refine wt_getR dX12_side_130 FX12_46 (by assumption) (by assumption) ?_
          refine wa_iload_n dX12_side_133 rfl ?_
          refine wa_iload dX12_side_134 rfl ?_
          refine wa_callSf dX12_side_136 KX12_arity LX12_106 (ka2) (by decide) rfl rfl (Nat.le_of_ble_eq_true rfl) rfl rfl ?_
          refine wt_iast nd.length dX12_side_139 (by assumption) rfl (by omega) (by first | exact ⟨by omega, by omega⟩) ?_
          refine wa_iinc dX12_side_140 rfl (by decide) ?_
          refine wa_goto 232 dX12_side_143 (by decide) ?_
          refine wa_goto 12 dX12_side_232 (by decide) ?_
          exact nx
        · omega
    · rw [if_neg z] at ki ⊢
      refine wa_iload dX12_side_110 rfl ?_
      refine wa_callSf dX12_side_112 KX12_arity LX12_106 (ka) (by decide) rfl rfl (Nat.le_of_ble_eq_true rfl) rfl rfl ?_
      refine wa_if_le 146 dX12_side_115 (by decide) (by first | exact ⟨by omega, by omega⟩) (fun c_115 => ?_) (fun c_115 => ?_)
      · omega
      · refine wa_aload_n dX12_side_118 rfl ?_
        refine wa_bipush dX12_side_119 rfl ?_
        refine wa_callVf (ci := 12) dX12_side_121 KX12_is LX12_213 ⟨_, _, rfl, by decide⟩ o168 (ki) (by decide) rfl rfl (Nat.le_of_ble_eq_true rfl) rfl rfl ?_
        refine wa_if_ne 129 dX12_side_124 (by decide) (by first | exact ⟨by omega, by omega⟩) (fun c_124 => ?_) (fun c_124 => ?_)
        · omega
        · refine wa_iconst dX12_side_127 ?_
          refine wa_zreturn dX12_side_128 rfl (by first | exact Or.inl rfl | exact Or.inr rfl) ?_
          exact ⟨rfl, _, rfl, s1.trans' (NF.at _).sf, atQ_10, fun y => by cases y⟩
  · rw [e2 c]
    have ea : arX s = 0 := by unfold arX; rw [if_pos (by omega)]
    have cb := clW_b (b := I 176) (n := n) nd (q + 1) hq
    have cn := clW_nd (b := I 176) (n := n) nd (q + 1) s7
    have cl := side_cl (L := L) hL hn1 (ρ := ρ) (b := I 176) (may := may) (s := s) (SdPost S I L ρ (if (clW (I 176) n nd (q + 1)).1 = false then (false, (clW (I 176) n nd (q + 1)).2.2, w) else if (clW (I 176) n nd (q + 1)).2.1 = [] then (true, (clW (I 176) n nd (q + 1)).2.2, w) else sdW (I 176) n may k (clW (I 176) n nd (q + 1)).2.1 w (clW (I 176) n nd (q + 1)).2.2)) nd (q + 1) J j9 j176 s2 hq s6 s7 (by omega) (fun J' j1 j2 j3 => by
      rw [if_pos j3]
      exact ⟨rfl, J', rfl, s1.trans' j1.sf, j2, fun y => by cases y⟩) (fun J' j1 j2 j3 j4 => by
      rw [if_neg (by rw [j3]; decide), if_pos j4]
      exact ⟨rfl, J', rfl, s1.trans' j1.sf, j2, fun _ => ⟨by rw [j1.2 15 (by decide)]; exact s3, by rw [j1.2 16 (by decide)]; exact s4, fun i hi => by rw [j1.1 ρ r8 r1]; exact s5 i hi⟩⟩) (fun J' j1 j2 j3 j4 j5 => by
      rw [if_neg (by rw [j3]; decide), if_neg j4]
      exact ih _ _ w J' _ _ (by omega) cb.2 ⟨s1.trans' j1.sf, j2, by rw [j1.2 15 (by decide)]; exact s3, by rw [j1.2 16 (by decide)]; exact s4, fun i hi => by rw [j1.1 ρ r8 r1]; exact s5 i hi, j5, cn.1, by omega, by omega, s10⟩)
    rw [ea] at ka
    refine wa_iload dX12_side_110 rfl ?_
    refine wa_callSf dX12_side_112 KX12_arity LX12_106 (ka) (by decide) rfl rfl (Nat.le_of_ble_eq_true rfl) rfl rfl ?_
    refine wa_if_le 146 dX12_side_115 (by decide) (by first | exact ⟨by omega, by omega⟩) (fun c_115 => ?_) (fun c_115 => ?_)
    · refine wa_iconst dX12_side_146 ?_
      refine wa_istore dX12_side_147 (by decide) ?_
      exact cl
    · omega
set_option maxRecDepth 20000 in
theorem side_lp (hL : LX S) {n : Nat} (hn : I 168 9 = (n : Int)) (hn1 : n ≤ 120) {ρ : Nat} (hρ : ρ = 177 ∨ ρ = 178) (hO : tmArr S ρ 13 120) {may : Nat} (hmay : may < 8) : ∀ (k p : Nat) (nd : List Nat) (w : List Int) (J : Nat → Nat → Int) (x4 x5 : Option tmV), n + 1 ≤ p + k → p ≤ n → SdJ ρ I J p nd w → tmW kX12_side 4 0 0 12 [some (tR 168), some (tR ρ), some (tI may), some (tI (nd.length : Nat)), x4, x5] [] (S, J, L) (SdPost S I L ρ (sdW (I 176) n may k nd w p)) := by
  intro k
  have o168 := oX168 hL
  have r168_0 := rX168_0 hL
  have r168_1 := rX168_1 hL
  have r168_3 := rX168_3 hL
  have r168_4 := rX168_4 hL
  have r168_5 := rX168_5 hL
  have r168_6 := rX168_6 hL
  have r168_7 := rX168_7 hL
  have r168_8 := rX168_8 hL
  have r168_11 := rX168_11 hL
  have r168_13 := rX168_13 hL
  have r168_17 := rX168_17 hL
  have r168_18 := rX168_18 hL
  have r168_19 := rX168_19 hL
  have r168_21 := rX168_21 hL
  have r168_22 := rX168_22 hL
  have r168_23 := rX168_23 hL
  have r168_24 := rX168_24 hL
  have r168_25 := rX168_25 hL
  have r168_26 := rX168_26 hL
  have r168_27 := rX168_27 hL
  have r168_28 := rX168_28 hL
  have r168_29 := rX168_29 hL
  have r168_30 := rX168_30 hL
  have r8 : ρ ≠ 168 := by omega
  have r8' : 168 ≠ ρ := by omega
  have r1 : ρ ≠ 181 := by omega
  have r1' : 181 ≠ ρ := by omega
  have r6 : 176 ≠ ρ := by omega
  induction k with
  | zero => intro p nd w J x4 x5 h1 h2; omega
  | succ k ih =>
    intro p nd w J x4 x5 hk hp h
    obtain ⟨s1, s2, s3, s4, s5, s6, s7, s8, s9, s10⟩ := id h
    have j9 : J 168 9 = (n : Int) := by rw [s1.2 9 (by decide) (by decide) (by decide)]; exact hn
    have j176 : J 176 = I 176 := s1.1 176 (by decide) r6 (by decide)
    refine wt_ir (fun hI => ?_)
    have ks := c_mskips (I := J) (L := L) hL j9 hn1 s2 hp
    have hb := skp_b (b := I 176) hp
    rw [j176] at ks
    simp only [sdW]
    generalize hq : skp (I 176) n p = q at *
    have kb := c_mbyte (I := atQ J q) (L := L) hL (by rw [atQ_k (by decide)]; exact j9) hn1 (p := q) hb.2
    rw [atQ_n (by decide), j176] at kb
    have kg := c_msignBy (h := (S, atQ J q, L)) (byt (I 176) n q) (by rw [← j176]; exact byt_r hI n q)
    have sb := sgOf_b (byt (I 176) n q)
    have sin := sgOf_in (b := I 176) (n := n) (p := q)
    generalize sgOf (byt (I 176) n q) = s at *
    by_cases c1 : s = -1 ∨ (7 ≤ s ∧ may.testBit (s - 7).toNat = false)
    · rw [if_pos c1]
      have fin : SdPost S I L ρ (false, q, w) (some (tI 0)) (S, atQ J q, L) := ⟨rfl, _, rfl, s1.trans' (NF.at _).sf, atQ_10, fun y => by cases y⟩
      by_cases c0 : s = -1
      · refine wa_aload_n dX12_side_12 rfl ?_
        refine wa_callVf (ci := 12) dX12_side_13 KX12_skips LX12_201 ⟨_, _, rfl, by decide⟩ o168 (ks) (by decide) rfl rfl (Nat.le_of_ble_eq_true rfl) rfl rfl ?_
        refine wa_aload_n dX12_side_16 rfl ?_
        refine wa_aload_n dX12_side_17 rfl ?_
        refine wt_getI dX12_side_18 FX12_195 (by assumption) ?_
        try first | rw [atQ_10] | skip
        refine wa_callVf (ci := 12) dX12_side_21 KX12_byteAt LX12_198 ⟨_, _, rfl, by decide⟩ o168 (kb) (by decide) rfl rfl (Nat.le_of_ble_eq_true rfl) rfl rfl ?_
        refine wa_callSf dX12_side_24 KX12_signBy LX12_210 (kg) (by decide) rfl rfl (Nat.le_of_ble_eq_true rfl) rfl rfl ?_
        refine wa_istore dX12_side_27 (by decide) ?_
        refine wa_iload dX12_side_29 rfl ?_
        refine wa_if_lt 53 dX12_side_31 (by decide) (by first | exact ⟨by omega, by omega⟩) (fun c_31 => ?_) (fun c_31 => ?_)
        · refine wa_iconst dX12_side_53 ?_
          refine wa_zreturn dX12_side_54 rfl (by first | exact Or.inl rfl | exact Or.inr rfl) ?_
          exact fin
        · omega
      · have c2 : 7 ≤ s ∧ may.testBit (s - 7).toNat = false := by
          rcases c1 with y | y
          · exact absurd y c0
          · exact y
        obtain ⟨l, rfl⟩ : ∃ l : Nat, s = 7 + (l : Int) := ⟨(s - 7).toNat, by omega⟩
        have el : (7 + (l : Int) - 7).toNat = l := by omega
        have el2 : (7 + (l : Int) - 7) = ((l : Nat) : Int) := by omega
        rw [el] at c2
        have o49 := an8 may hmay l (by omega)
        rw [if_neg (by rw [c2.2]; decide)] at o49
        refine wa_aload_n dX12_side_12 rfl ?_
        refine wa_callVf (ci := 12) dX12_side_13 KX12_skips LX12_201 ⟨_, _, rfl, by decide⟩ o168 (ks) (by decide) rfl rfl (Nat.le_of_ble_eq_true rfl) rfl rfl ?_
        refine wa_aload_n dX12_side_16 rfl ?_
        refine wa_aload_n dX12_side_17 rfl ?_
        refine wt_getI dX12_side_18 FX12_195 (by assumption) ?_
        try first | rw [atQ_10] | skip
        refine wa_callVf (ci := 12) dX12_side_21 KX12_byteAt LX12_198 ⟨_, _, rfl, by decide⟩ o168 (kb) (by decide) rfl rfl (Nat.le_of_ble_eq_true rfl) rfl rfl ?_
        refine wa_callSf dX12_side_24 KX12_signBy LX12_210 (kg) (by decide) rfl rfl (Nat.le_of_ble_eq_true rfl) rfl rfl ?_
        refine wa_istore dX12_side_27 (by decide) ?_
        refine wa_iload dX12_side_29 rfl ?_
        refine wa_if_lt 53 dX12_side_31 (by decide) (by first | exact ⟨by omega, by omega⟩) (fun c_31 => ?_) (fun c_31 => ?_)
        · omega
        · refine wa_iload dX12_side_34 rfl ?_
          refine wa_bipush dX12_side_36 rfl ?_
          refine wa_icmp_lt 55 dX12_side_38 (by decide) (by first | exact ⟨by omega, by omega⟩) (by first | exact ⟨by omega, by omega⟩) (fun c_38 => ?_) (fun c_38 => ?_)
          · omega
          · refine wa_iload_n dX12_side_41 rfl ?_
            refine wa_iload dX12_side_42 rfl ?_
            refine wa_bipush dX12_side_44 rfl ?_
            refine wa_isub dX12_side_46 ?_
            rw [el2]
            refine wa_ishr dX12_side_47 (sh8 may hmay l (by omega)) ?_
            refine wa_iconst dX12_side_48 ?_
            refine wa_iand dX12_side_49 (r := 0) o49 ?_
            refine wa_if_ne 55 dX12_side_50 (by decide) (by first | exact ⟨by omega, by omega⟩) (fun c_50 => ?_) (fun c_50 => ?_)
            · omega
            · refine wa_iconst dX12_side_53 ?_
              refine wa_zreturn dX12_side_54 rfl (by first | exact Or.inl rfl | exact Or.inr rfl) ?_
              exact fin
    · rw [if_neg c1]
      have c0 : 0 ≤ s := by
        by_cases y : s = -1
        · exact absurd (Or.inl y) c1
        · omega
      have hqn := sin (fun y => c1 (Or.inl y))
      have hlw : letW w < 8 := letW_lt w s10
      -- from pc 110
      have go : ∀ K : Nat → Nat → Int, SdJ ρ I K (q + 1) nd (w ++ [s]) → tmW kX12_side 4 0 0 110 [some (tR 168), some (tR ρ), some (tI may), some (tI (nd.length : Nat)), some (tI s), x5] [] (S, K, L) (SdPost S I L ρ (if 4 ≤ s ∧ s ≤ 6 then if tkB (I 176) n (q + 1) 40 then sdW (I 176) n may k ((if s = 6 then 2 else 1) :: nd) (w ++ [s]) (tkP (I 176) n (q + 1) 40) else (false, tkP (I 176) n (q + 1) 40, w ++ [s]) else if (clW (I 176) n nd (q + 1)).1 = false then (false, (clW (I 176) n nd (q + 1)).2.2, w ++ [s]) else if (clW (I 176) n nd (q + 1)).2.1 = [] then (true, (clW (I 176) n nd (q + 1)).2.2, w ++ [s]) else sdW (I 176) n may k (clW (I 176) n nd (q + 1)).2.1 (w ++ [s]) (clW (I 176) n nd (q + 1)).2.2)) := fun K hK => side_110 hL hn hn1 hρ ⟨c0, sb.2⟩ ih (by omega) (by omega) hK (by omega) x5 _ (fun y => by rw [if_pos y]) (fun y => by rw [if_neg y])
      generalize SdPost S I L ρ (if 4 ≤ s ∧ s ≤ 6 then if tkB (I 176) n (q + 1) 40 then sdW (I 176) n may k ((if s = 6 then 2 else 1) :: nd) (w ++ [s]) (tkP (I 176) n (q + 1) 40) else (false, tkP (I 176) n (q + 1) 40, w ++ [s]) else if (clW (I 176) n nd (q + 1)).1 = false then (false, (clW (I 176) n nd (q + 1)).2.2, w ++ [s]) else if (clW (I 176) n nd (q + 1)).2.1 = [] then (true, (clW (I 176) n nd (q + 1)).2.2, w ++ [s]) else sdW (I 176) n may k (clW (I 176) n nd (q + 1)).2.1 (w ++ [s]) (clW (I 176) n nd (q + 1)).2.2) = Q at go ⊢
      -- from pc 82: LETTERS are told
      have mid : ∀ K : Nat → Nat → Int, (∀ a, a ≠ 168 → K a = J a) → (∀ x, x ≠ 10 → x ≠ 16 → K 168 x = J 168 x) → K 168 10 = (q : Int) → K 168 16 = ((letW (w ++ [s]) : Nat) : Int) → tmW kX12_side 4 0 0 82 [some (tR 168), some (tR ρ), some (tI may), some (tI (nd.length : Nat)), some (tI s), x5] [] (S, K, L) Q := fun K k1 k2 k3 k4 => by
        have k15 : atQ K (q + 1) 168 15 = (w.length : Int) := by rw [atQ_k (by decide), k2 15 (by decide) (by decide)]; exact s3
        have eK : va_up K 168 (va_up (K 168) 10 ((q : Int) + 1)) = atQ K (q + 1) := rfl
        generalize hV : va_up (atQ K (q + 1)) ρ (va_up (atQ K (q + 1) ρ) w.length s) = V
        have v168 : V 168 = atQ K (q + 1) 168 := by rw [← hV, vup_n r8']
        have v15 : V 168 15 = (w.length : Int) := by rw [v168]; exact k15
        have fin : SdJ ρ I (va_up V 168 (va_up (V 168) 15 ((w.length : Int) + 1))) (q + 1) nd (w ++ [s]) := by
          have fr : ∀ a, a ≠ 168 → a ≠ ρ → va_up V 168 (va_up (V 168) 15 ((w.length : Int) + 1)) a = J a := fun a a1 a2 => by rw [vup_n a1, ← hV, vup_n a2, atQ_n a1, k1 a a1]
          have f8 : ∀ x, x ≠ 10 → x ≠ 15 → x ≠ 16 → va_up V 168 (va_up (V 168) 15 ((w.length : Int) + 1)) 168 x = J 168 x := fun x x1 x2 x3 => by rw [vup_s, vup_n x2, v168, atQ_k x1, k2 x x1 x3]
          refine ⟨⟨fun a a1 a2 a3 => by rw [fr a a1 a2]; exact s1.1 a a1 a2 a3, fun x x1 x2 x3 => by rw [f8 x x1 x2 x3]; exact s1.2 x x1 x2 x3⟩, by rw [vup_s, vup_n (by decide), v168]; exact atQ_10, by rw [vup_s, vup_s, List.length_append]; rfl, by rw [vup_s, vup_n (by decide), v168, atQ_k (by decide)]; exact k4, fun i hi => ?_, s6.cg (fun i _ => by rw [fr 181 (by decide) r1']), s7, by rw [List.length_append]; simp; omega, by omega, fun x hx => ?_⟩
          · rw [vup_n r8, ← hV, vup_s]
            by_cases y : i = w.length
            · rw [y, vup_s, getD_last]
            · rw [List.length_append] at hi
              simp only [List.length_singleton] at hi
              rw [vup_n y, atQ_n r8, k1 ρ r8, getD_snoc (by omega)]
              exact s5 i (by omega)
          · rcases List.mem_append.mp hx with y | y
            · exact s10 x y
            · rw [List.mem_singleton] at y; rw [y]; exact sb.2
        have nx := go _ fin
        refine wa_aload_n dX12_side_82 rfl ?_
        refine wa_dup dX12_side_83 rfl ?_
        refine wt_getI dX12_side_84 FX12_195 (by assumption) ?_
        try first | rw [k3] | rw [k15] | rw [v15] | skip
        refine wa_iconst dX12_side_87 ?_
        refine wa_iadd dX12_side_88 ?_
        refine wt_putI dX12_side_89 FX12_195 (WX12_10 _ _) (by assumption) (by first | exact ⟨by omega, by omega⟩) ?_
        rw [eK]
        refine wa_aload_n dX12_side_92 rfl ?_
        refine wa_aload_n dX12_side_93 rfl ?_
        refine wt_getI dX12_side_94 FX12_204 (by assumption) ?_
        try first | rw [k3] | rw [k15] | rw [v15] | skip
        refine wa_iload dX12_side_97 rfl ?_
        refine wt_iast w.length dX12_side_99 hO rfl (by omega) (by first | exact ⟨by omega, by omega⟩) ?_
        rw [hV]
        refine wa_aload_n dX12_side_100 rfl ?_
        refine wa_dup dX12_side_101 rfl ?_
        refine wt_getI dX12_side_102 FX12_204 (by assumption) ?_
        try first | rw [k3] | rw [k15] | rw [v15] | skip
        refine wa_iconst dX12_side_105 ?_
        refine wa_iadd dX12_side_106 ?_
        refine wt_putI dX12_side_107 FX12_204 (WX12_15 _ _) (by assumption) (by first | exact ⟨by omega, by omega⟩) ?_
        exact nx
      have el15 := letW_snoc w s
      by_cases c7 : 7 ≤ s
      · obtain ⟨l, rfl⟩ : ∃ l : Nat, s = 7 + (l : Int) := ⟨(s - 7).toNat, by omega⟩
        have el : (7 + (l : Int) - 7).toNat = l := by omega
        have el2 : (7 + (l : Int) - 7) = ((l : Nat) : Int) := by omega
        rw [el] at c1 el15
        rw [if_pos c7] at el15
        have hbit : may.testBit l = true := by
          cases y : may.testBit l with
          | true => rfl
          | false => exact absurd (Or.inr ⟨c7, y⟩) c1
        have o49 := an8 may hmay l (by omega)
        rw [if_pos hbit] at o49
        have j16 : atQ J q 168 16 = ((letW w : Nat) : Int) := by rw [atQ_k (by decide)]; exact s4
        have hor := (tm_or8 (letW w) hlw l (by omega)).2
        have nx := mid (va_up (atQ J q) 168 (va_up (atQ J q 168) 16 ((letW w ||| 1 <<< l : Nat) : Int))) (fun a a1 => by rw [vup_n a1, atQ_n a1]) (fun x x1 x2 => by rw [vup_s, vup_n x2, atQ_k x1]) (by rw [vup_s, vup_n (by decide)]; exact atQ_10) (by rw [vup_s, vup_s, el15])
        refine wa_aload_n dX12_side_12 rfl ?_
        refine wa_callVf (ci := 12) dX12_side_13 KX12_skips LX12_201 ⟨_, _, rfl, by decide⟩ o168 (ks) (by decide) rfl rfl (Nat.le_of_ble_eq_true rfl) rfl rfl ?_
        refine wa_aload_n dX12_side_16 rfl ?_
        refine wa_aload_n dX12_side_17 rfl ?_
        refine wt_getI dX12_side_18 FX12_195 (by assumption) ?_
        try first | rw [atQ_10] | rw [j16] | skip
        refine wa_callVf (ci := 12) dX12_side_21 KX12_byteAt LX12_198 ⟨_, _, rfl, by decide⟩ o168 (kb) (by decide) rfl rfl (Nat.le_of_ble_eq_true rfl) rfl rfl ?_
        refine wa_callSf dX12_side_24 KX12_signBy LX12_210 (kg) (by decide) rfl rfl (Nat.le_of_ble_eq_true rfl) rfl rfl ?_
        refine wa_istore dX12_side_27 (by decide) ?_
        refine wa_iload dX12_side_29 rfl ?_
        refine wa_if_lt 53 dX12_side_31 (by decide) (by first | exact ⟨by omega, by omega⟩) (fun c_31 => ?_) (fun c_31 => ?_)
        · omega
        · refine wa_iload dX12_side_34 rfl ?_
          refine wa_bipush dX12_side_36 rfl ?_
          refine wa_icmp_lt 55 dX12_side_38 (by decide) (by first | exact ⟨by omega, by omega⟩) (by first | exact ⟨by omega, by omega⟩) (fun c_38 => ?_) (fun c_38 => ?_)
          · omega
          · refine wa_iload_n dX12_side_41 rfl ?_
            refine wa_iload dX12_side_42 rfl ?_
            refine wa_bipush dX12_side_44 rfl ?_
            refine wa_isub dX12_side_46 ?_
            rw [el2]
            refine wa_ishr dX12_side_47 (sh8 may hmay l (by omega)) ?_
            refine wa_iconst dX12_side_48 ?_
            refine wa_iand dX12_side_49 (r := 1) o49 ?_
            refine wa_if_ne 55 dX12_side_50 (by decide) (by first | exact ⟨by omega, by omega⟩) (fun c_50 => ?_) (fun c_50 => ?_)
            · refine wa_aload_n dX12_side_55 rfl ?_
              refine wa_dup dX12_side_56 rfl ?_
              refine wt_getI dX12_side_57 FX12_207 (by assumption) ?_
              try first | rw [atQ_10] | rw [j16] | skip
              refine wa_iload dX12_side_60 rfl ?_
              refine wa_bipush dX12_side_62 rfl ?_
              refine wa_icmp_lt 77 dX12_side_64 (by decide) (by first | exact ⟨by omega, by omega⟩) (by first | exact ⟨by omega, by omega⟩) (fun c_64 => ?_) (fun c_64 => ?_)
              · omega
              · refine wa_iconst dX12_side_67 ?_
                refine wa_iload dX12_side_68 rfl ?_
                refine wa_bipush dX12_side_70 rfl ?_
                refine wa_isub dX12_side_72 ?_
                rw [el2]
                refine wa_ishl dX12_side_73 (tm_shl3 l (by omega)) ?_
                refine wa_goto 78 dX12_side_74 (by decide) ?_
                refine wa_ior dX12_side_78 (tm_orN (letW w) hlw l (by omega)) ?_
                refine wt_putI dX12_side_79 FX12_207 (WX12_16 _ _) (by assumption) (by first | exact ⟨by omega, by omega⟩) ?_
                exact nx
            · omega
      · rw [if_neg c7] at el15
        have j16 : atQ J q 168 16 = ((letW w : Nat) : Int) := by rw [atQ_k (by decide)]; exact s4
        have nx := mid (va_up (atQ J q) 168 (va_up (atQ J q 168) 16 ((letW w : Nat) : Int))) (fun a a1 => by rw [vup_n a1, atQ_n a1]) (fun x x1 x2 => by rw [vup_s, vup_n x2, atQ_k x1]) (by rw [vup_s, vup_n (by decide)]; exact atQ_10) (by rw [vup_s, vup_s, el15])
        refine wa_aload_n dX12_side_12 rfl ?_
        refine wa_callVf (ci := 12) dX12_side_13 KX12_skips LX12_201 ⟨_, _, rfl, by decide⟩ o168 (ks) (by decide) rfl rfl (Nat.le_of_ble_eq_true rfl) rfl rfl ?_
        refine wa_aload_n dX12_side_16 rfl ?_
        refine wa_aload_n dX12_side_17 rfl ?_
        refine wt_getI dX12_side_18 FX12_195 (by assumption) ?_
        try first | rw [atQ_10] | rw [j16] | skip
        refine wa_callVf (ci := 12) dX12_side_21 KX12_byteAt LX12_198 ⟨_, _, rfl, by decide⟩ o168 (kb) (by decide) rfl rfl (Nat.le_of_ble_eq_true rfl) rfl rfl ?_
        refine wa_callSf dX12_side_24 KX12_signBy LX12_210 (kg) (by decide) rfl rfl (Nat.le_of_ble_eq_true rfl) rfl rfl ?_
        refine wa_istore dX12_side_27 (by decide) ?_
        refine wa_iload dX12_side_29 rfl ?_
        refine wa_if_lt 53 dX12_side_31 (by decide) (by first | exact ⟨by omega, by omega⟩) (fun c_31 => ?_) (fun c_31 => ?_)
        · omega
        · refine wa_iload dX12_side_34 rfl ?_
          refine wa_bipush dX12_side_36 rfl ?_
          refine wa_icmp_lt 55 dX12_side_38 (by decide) (by first | exact ⟨by omega, by omega⟩) (by first | exact ⟨by omega, by omega⟩) (fun c_38 => ?_) (fun c_38 => ?_)
          · refine wa_aload_n dX12_side_55 rfl ?_
            refine wa_dup dX12_side_56 rfl ?_
            refine wt_getI dX12_side_57 FX12_207 (by assumption) ?_
            try first | rw [atQ_10] | rw [j16] | skip
            refine wa_iload dX12_side_60 rfl ?_
            refine wa_bipush dX12_side_62 rfl ?_
            refine wa_icmp_lt 77 dX12_side_64 (by decide) (by first | exact ⟨by omega, by omega⟩) (by first | exact ⟨by omega, by omega⟩) (fun c_64 => ?_) (fun c_64 => ?_)
            · refine wa_iconst dX12_side_77 ?_
              refine wa_ior dX12_side_78 (or0_8 (letW w) hlw) ?_
              refine wt_putI dX12_side_79 FX12_207 (WX12_16 _ _) (by assumption) (by first | exact ⟨by omega, by omega⟩) ?_
              exact nx
            · omega
          · omega
set_option maxRecDepth 20000 in
theorem c_mside (hL : LX S) {n p : Nat} (hn : I 168 9 = (n : Int)) (hn1 : n ≤ 120) (hp : I 168 10 = (p : Int)) (hpn : p ≤ n) {ρ : Nat} (hρ : ρ = 177 ∨ ρ = 178) (hO : tmArr S ρ 13 120) {may : Nat} (hmay : may < 8) : tmC yX12_side kX12_side 4 0 0 [tR 168, tR ρ, tI may] (S, I, L) (SdPost S I L ρ (sideW (I 176) n may p)) := by
  refine tmC.mk (lv := [some (tR 168), some (tR ρ), some (tI may), none, none, none]) 3 ⟨rfl, by decide +kernel, by decide⟩ rfl rfl ?_
  have o168 := oX168 hL
  have r168_0 := rX168_0 hL
  have r168_1 := rX168_1 hL
  have r168_3 := rX168_3 hL
  have r168_4 := rX168_4 hL
  have r168_5 := rX168_5 hL
  have r168_6 := rX168_6 hL
  have r168_7 := rX168_7 hL
  have r168_8 := rX168_8 hL
  have r168_11 := rX168_11 hL
  have r168_13 := rX168_13 hL
  have r168_17 := rX168_17 hL
  have r168_18 := rX168_18 hL
  have r168_19 := rX168_19 hL
  have r168_21 := rX168_21 hL
  have r168_22 := rX168_22 hL
  have r168_23 := rX168_23 hL
  have r168_24 := rX168_24 hL
  have r168_25 := rX168_25 hL
  have r168_26 := rX168_26 hL
  have r168_27 := rX168_27 hL
  have r168_28 := rX168_28 hL
  have r168_29 := rX168_29 hL
  have r168_30 := rX168_30 hL
  have r8 : ρ ≠ 168 := by omega
  generalize hV : va_up I 168 (va_up (va_up (I 168) 15 0) 16 0) = V
  have nx := side_lp (I := I) (L := L) hL hn hn1 hρ hO hmay 121 p [] [] V none none (by omega) hpn ⟨⟨fun a a1 _ _ => by rw [← hV, vup_n a1], fun x _ x2 x3 => by rw [← hV, vup_s, vup_n x3, vup_n x2]⟩, by rw [← hV, vup_s, vup_n (by decide), vup_n (by decide)]; exact hp, by rw [← hV, vup_s, vup_n (by decide), vup_s]; rfl, by rw [← hV, vup_s, vup_s]; rfl, fun i hi => by simp at hi, trivial, (fun m hm => by cases hm), Nat.zero_le _, Nat.zero_le _, (fun s hs => by cases hs)⟩
  refine wa_aload_n dX12_side_0 rfl ?_
  refine wa_iconst dX12_side_1 ?_
  refine wt_putI dX12_side_2 FX12_204 (WX12_15 _ _) (by assumption) (by exact ⟨by omega, by omega⟩) ?_
  refine wa_aload_n dX12_side_5 rfl ?_
  refine wa_iconst dX12_side_6 ?_
  refine wt_putI dX12_side_7 FX12_207 (WX12_16 _ _) (by assumption) (by exact ⟨by omega, by omega⟩) ?_
  rw [vup_s, vup_vup, hV]
  refine wa_iconst dX12_side_10 ?_
  refine wa_istore_n dX12_side_11 (by decide) ?_
  exact nx
end S99zc
