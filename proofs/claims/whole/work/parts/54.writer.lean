/-! ===== 54: Writer.push, writeTerm ===== -/
def psh (I : Nat → Nat → Int) (dp : Nat) (x : Int) : Nat → Nat → Int := va_up (va_up I 166 (va_up (I 166) dp x)) 164 (va_up (I 164) 2 ((dp + 1 : Nat) : Int))
def pshL (I : Nat → Nat → Int) (dp : Nat) : List Int → Nat → Nat → Int
  | [] => I
  | x :: l => pshL (psh I dp x) (dp + 1) l
theorem psh_2 (I : Nat → Nat → Int) (dp : Nat) (x : Int) : psh I dp x 164 2 = ((dp + 1 : Nat) : Int) := by unfold psh; rw [vup_s, vup_s]
theorem psh_3 (I : Nat → Nat → Int) (dp : Nat) (x : Int) (k : Nat) (hk : k ≠ 2) : psh I dp x 164 k = I 164 k := by unfold psh; rw [vup_s, vup_n hk]
theorem psh_n (I : Nat → Nat → Int) (dp : Nat) (x : Int) (a : Nat) (h1 : a ≠ 164) (h2 : a ≠ 166) : psh I dp x a = I a := by unfold psh; rw [vup_n h1, vup_n h2]
/-- what a TERM leaves to write -/
def wrL (s a b : Int) : List Int := if s < 4 then [] else if s = 6 then [-42, b, -45, a, -41] else [-42, a, -41]
section S54
variable {S : tmS} {I : Nat → Nat → Int} {L : Nat → Nat → Int64}
set_option maxRecDepth 20000 in
theorem c_push (hL : LX S) {dp : Nat} (hd : I 164 2 = (dp : Int)) (hd2 : dp < 255) (x : Int) (hx : inR x) : tmC yX10_push kX10_push 1 0 0 [tR 164, tI x] (S, I, L) (tmF none (S, psh I dp x, L)) := by
  refine tmC.mk (lv := [some (tR 164), some (tI x)]) 0 ⟨rfl, by decide +kernel, by decide⟩ rfl rfl ?_
  have o164 := oX164 hL
  have r164_0 := rX164_0 hL
  have r164_1 := rX164_1 hL
  have o166 := oX166 hL
  refine wa_aload_n dX10_push_0 rfl ?_
  refine wt_getI dX10_push_1 FX10_18 (by assumption) ?_
  try simp (disch := omega) only [vup_n, vup_s, hd]
  refine wa_sipush dX10_push_4 rfl ?_
  refine wa_icmp_ge 30 dX10_push_7 (by decide) (by first | exact hx | exact ⟨by omega, by omega⟩) (by first | exact hx | exact ⟨by omega, by omega⟩) (fun c_7 => ?_) (fun c_7 => ?_)
  · omega
  · refine wa_aload_n dX10_push_10 rfl ?_
    refine wt_getR dX10_push_11 FX10_15 (by assumption) (by assumption) ?_
    refine wa_aload_n dX10_push_14 rfl ?_
    refine wt_getI dX10_push_15 FX10_18 (by assumption) ?_
    try simp (disch := omega) only [vup_n, vup_s, hd]
    refine wa_iload_n dX10_push_18 rfl ?_
    refine wt_iast dp dX10_push_19 (by assumption) rfl (by omega) (by first | exact hx | exact ⟨by omega, by omega⟩) ?_
    refine wa_aload_n dX10_push_20 rfl ?_
    refine wa_dup dX10_push_21 rfl ?_
    refine wt_getI dX10_push_22 FX10_18 (by assumption) ?_
    try simp (disch := omega) only [vup_n, vup_s, hd]
    refine wa_iconst dX10_push_25 ?_
    refine wa_iadd dX10_push_26 ?_
    refine wt_putI dX10_push_27 FX10_18 (WX10_2 _ _) (by assumption) (by first | exact hx | exact ⟨by omega, by omega⟩) ?_
    refine wa_return dX10_push_30 rfl ?_
    exact ⟨rfl, rfl⟩
set_option maxRecDepth 20000 in
set_option maxHeartbeats 1000000 in
theorem c_writeTerm (hL : LX S) {n dp ln t : Nat} (hn5 : n ≤ 50) (hw : WFT n (I 3) (I 4) (I 5)) (ht : t < n) (hd : I 164 2 = (dp : Int)) (hd2 : dp + 5 ≤ 255) (hl : I 164 3 = (ln : Int)) (hl3 : ln < 300) : tmC yX10_writeTerm kX10_writeTerm 5 0 0 [tR 164, tR 2, tI t] (S, I, L) (tmF none (S, pshL (va_up I 165 (va_up (I 165) ln (sgI (I 3 t).toNat))) dp (wrL (I 3 t) (I 4 t) (I 5 t)), L)) := by
  refine tmC.mk (lv := [some (tR 164), some (tR 2), some (tI t), none]) 1 ⟨rfl, by decide +kernel, by decide⟩ rfl rfl ?_
  have o164 := oX164 hL
  have r164_0 := rX164_0 hL
  have r164_1 := rX164_1 hL
  have o165 := oX165 hL
  have o166 := oX166 hL
  have o2 := oX2 hL
  have r2_1 := rX2_1 hL
  have r2_2 := rX2_2 hL
  have r2_3 := rX2_3 hL
  have r2_4 := rX2_4 hL
  have r2_5 := rX2_5 hL
  have o3 := oX3 hL
  have o4 := oX4 hL
  have o5 := oX5 hL
  refine wt_ir (fun hI => ?_)
  have w := hw t ht
  obtain ⟨s, hs⟩ : ∃ s : Nat, I 3 t = (s : Int) := ⟨(I 3 t).toNat, by omega⟩
  have hs7 : s < 7 := by omega
  have hsr := sgI_r s hs7
  have hsn : (I 3 t).toNat = s := by omega
  rw [hsn]
  generalize hJ : va_up I 165 (va_up (I 165) ln (sgI s)) = J
  have gJ : ∀ a, a ≠ 165 → J a = I a := fun a ha => by rw [← hJ]; exact vup_n ha
  have j2 : J 164 2 = (dp : Int) := by rw [gJ 164 (by decide)]; exact hd
  have rest : tmW kX10_writeTerm 5 0 0 37 [some (tR 164), some (tR 2), some (tI t), some (tI s)] [] (S, J, L) (tmF none (S, pshL J dp (wrL (I 3 t) (I 4 t) (I 5 t)), L)) := by
    have p1 := c_push (I := J) (L := L) hL j2 (by omega) (-42) ⟨by decide, by decide⟩
    by_cases h4 : s < 4
    · have hwr : wrL (I 3 t) (I 4 t) (I 5 t) = [] := by unfold wrL; rw [if_pos (by omega)]
      rw [hwr]
      refine wa_iload_n dX10_writeTerm_37 rfl ?_
      refine wa_iconst dX10_writeTerm_38 ?_
      refine wa_icmp_ge 43 dX10_writeTerm_39 (by decide) (by exact ⟨by omega, by omega⟩) (by exact ⟨by omega, by omega⟩) (fun c_39 => ?_) (fun c_39 => ?_)
      · omega
      · refine wa_return dX10_writeTerm_42 rfl ?_
        exact ⟨rfl, rfl⟩
    · by_cases h6 : s = 6
      · have hwr : wrL (I 3 t) (I 4 t) (I 5 t) = [-42, I 5 t, -45, I 4 t, -41] := by unfold wrL; rw [if_neg (by omega), if_pos (by omega)]
        rw [hwr]
        have p2 := c_push (I := psh J dp (-42)) (L := L) hL (psh_2 _ _ _) (by omega) (I 5 t) (hI _ _)
        have p3 := c_push (I := psh (psh J dp (-42)) (dp + 1) (I 5 t)) (L := L) hL (psh_2 _ _ _) (by omega) (-45) ⟨by decide, by decide⟩
        have p4 := c_push (I := psh (psh (psh J dp (-42)) (dp + 1) (I 5 t)) (dp + 1 + 1) (-45)) (L := L) hL (psh_2 _ _ _) (by omega) (I 4 t) (hI _ _)
        have p5 := c_push (I := psh (psh (psh (psh J dp (-42)) (dp + 1) (I 5 t)) (dp + 1 + 1) (-45)) (dp + 1 + 1 + 1) (I 4 t)) (L := L) hL (psh_2 _ _ _) (by omega) (-41) ⟨by decide, by decide⟩
        have e5 : psh J dp (-42) 5 = I 5 := by rw [psh_n _ _ _ _ (by decide) (by decide), gJ 5 (by decide)]
        have e4 : psh (psh (psh J dp (-42)) (dp + 1) (I 5 t)) (dp + 1 + 1) (-45) 4 = I 4 := by rw [psh_n _ _ _ _ (by decide) (by decide), psh_n _ _ _ _ (by decide) (by decide), psh_n _ _ _ _ (by decide) (by decide), gJ 4 (by decide)]
        refine wa_iload_n dX10_writeTerm_37 rfl ?_
        refine wa_iconst dX10_writeTerm_38 ?_
        refine wa_icmp_ge 43 dX10_writeTerm_39 (by decide) (by exact ⟨by omega, by omega⟩) (by exact ⟨by omega, by omega⟩) (fun c_39 => ?_) (fun c_39 => ?_)
        · refine wa_aload_n dX10_writeTerm_43 rfl ?_
          refine wa_bipush dX10_writeTerm_44 rfl ?_
          refine wa_callVf (ci := 10) dX10_writeTerm_46 KX10_push LX10_25 ⟨_, _, rfl, by decide⟩ o164 (p1) (by decide) rfl rfl (Nat.le_of_ble_eq_true rfl) rfl rfl ?_
          refine wa_iload_n dX10_writeTerm_49 rfl ?_
          refine wa_bipush dX10_writeTerm_50 rfl ?_
          refine wa_icmp_ne 71 dX10_writeTerm_52 (by decide) (by exact ⟨by omega, by omega⟩) (by exact ⟨by omega, by omega⟩) (fun c_52 => ?_) (fun c_52 => ?_)
          · omega
          · refine wa_aload_n dX10_writeTerm_55 rfl ?_
            refine wa_aload_n dX10_writeTerm_56 rfl ?_
            refine wt_getR dX10_writeTerm_57 FX10_50 (by assumption) (by assumption) ?_
            refine wa_iload_n dX10_writeTerm_60 rfl ?_
            refine wt_iald t dX10_writeTerm_61 (by assumption) rfl (by omega) ?_
            try first | rw [e5] | rw [e4] | skip
            refine wa_callVf (ci := 10) dX10_writeTerm_62 KX10_push LX10_25 ⟨_, _, rfl, by decide⟩ o164 (p2) (by decide) rfl rfl (Nat.le_of_ble_eq_true rfl) rfl rfl ?_
            refine wa_aload_n dX10_writeTerm_65 rfl ?_
            refine wa_bipush dX10_writeTerm_66 rfl ?_
            refine wa_callVf (ci := 10) dX10_writeTerm_68 KX10_push LX10_25 ⟨_, _, rfl, by decide⟩ o164 (p3) (by decide) rfl rfl (Nat.le_of_ble_eq_true rfl) rfl rfl ?_
            refine wa_aload_n dX10_writeTerm_71 rfl ?_
            refine wa_aload_n dX10_writeTerm_72 rfl ?_
            refine wt_getR dX10_writeTerm_73 FX10_53 (by assumption) (by assumption) ?_
            refine wa_iload_n dX10_writeTerm_76 rfl ?_
            refine wt_iald t dX10_writeTerm_77 (by assumption) rfl (by omega) ?_
            try first | rw [e5] | rw [e4] | skip
            refine wa_callVf (ci := 10) dX10_writeTerm_78 KX10_push LX10_25 ⟨_, _, rfl, by decide⟩ o164 (p4) (by decide) rfl rfl (Nat.le_of_ble_eq_true rfl) rfl rfl ?_
            refine wa_aload_n dX10_writeTerm_81 rfl ?_
            refine wa_bipush dX10_writeTerm_82 rfl ?_
            refine wa_callVf (ci := 10) dX10_writeTerm_84 KX10_push LX10_25 ⟨_, _, rfl, by decide⟩ o164 (p5) (by decide) rfl rfl (Nat.le_of_ble_eq_true rfl) rfl rfl ?_
            refine wa_return dX10_writeTerm_87 rfl ?_
            exact ⟨rfl, rfl⟩
        · omega
      · have hwr : wrL (I 3 t) (I 4 t) (I 5 t) = [-42, I 4 t, -41] := by unfold wrL; rw [if_neg (by omega), if_neg (by omega)]
        rw [hwr]
        have p2 := c_push (I := psh J dp (-42)) (L := L) hL (psh_2 _ _ _) (by omega) (I 4 t) (hI _ _)
        have p3 := c_push (I := psh (psh J dp (-42)) (dp + 1) (I 4 t)) (L := L) hL (psh_2 _ _ _) (by omega) (-41) ⟨by decide, by decide⟩
        have e4 : psh J dp (-42) 4 = I 4 := by rw [psh_n _ _ _ _ (by decide) (by decide), gJ 4 (by decide)]
        refine wa_iload_n dX10_writeTerm_37 rfl ?_
        refine wa_iconst dX10_writeTerm_38 ?_
        refine wa_icmp_ge 43 dX10_writeTerm_39 (by decide) (by exact ⟨by omega, by omega⟩) (by exact ⟨by omega, by omega⟩) (fun c_39 => ?_) (fun c_39 => ?_)
        · refine wa_aload_n dX10_writeTerm_43 rfl ?_
          refine wa_bipush dX10_writeTerm_44 rfl ?_
          refine wa_callVf (ci := 10) dX10_writeTerm_46 KX10_push LX10_25 ⟨_, _, rfl, by decide⟩ o164 (p1) (by decide) rfl rfl (Nat.le_of_ble_eq_true rfl) rfl rfl ?_
          refine wa_iload_n dX10_writeTerm_49 rfl ?_
          refine wa_bipush dX10_writeTerm_50 rfl ?_
          refine wa_icmp_ne 71 dX10_writeTerm_52 (by decide) (by exact ⟨by omega, by omega⟩) (by exact ⟨by omega, by omega⟩) (fun c_52 => ?_) (fun c_52 => ?_)
          · refine wa_aload_n dX10_writeTerm_71 rfl ?_
            refine wa_aload_n dX10_writeTerm_72 rfl ?_
            refine wt_getR dX10_writeTerm_73 FX10_53 (by assumption) (by assumption) ?_
            refine wa_iload_n dX10_writeTerm_76 rfl ?_
            refine wt_iald t dX10_writeTerm_77 (by assumption) rfl (by omega) ?_
            try first | rw [e4] | skip
            refine wa_callVf (ci := 10) dX10_writeTerm_78 KX10_push LX10_25 ⟨_, _, rfl, by decide⟩ o164 (p2) (by decide) rfl rfl (Nat.le_of_ble_eq_true rfl) rfl rfl ?_
            refine wa_aload_n dX10_writeTerm_81 rfl ?_
            refine wa_bipush dX10_writeTerm_82 rfl ?_
            refine wa_callVf (ci := 10) dX10_writeTerm_84 KX10_push LX10_25 ⟨_, _, rfl, by decide⟩ o164 (p3) (by decide) rfl rfl (Nat.le_of_ble_eq_true rfl) rfl rfl ?_
            refine wa_return dX10_writeTerm_87 rfl ?_
            exact ⟨rfl, rfl⟩
          · omega
        · omega
  have after : tmW kX10_writeTerm 5 0 0 31 [some (tR 164), some (tR 2), some (tI t), some (tI s)] [tI (sgI s), tI ln, tR 165] (S, I, L) (tmF none (S, pshL J dp (wrL (I 3 t) (I 4 t) (I 5 t)), L)) := by
    refine wa_goto 36 dX10_writeTerm_31 (by decide) ?_
    refine wt_iast ln dX10_writeTerm_36 (by assumption) rfl (by omega) (by exact hsr) ?_
    rw [hJ]
    exact rest
  rw [hs] at after
  refine wa_aload_n dX10_writeTerm_0 rfl ?_
  refine wt_getR dX10_writeTerm_1 FX10_39 (by assumption) (by assumption) ?_
  refine wa_iload_n dX10_writeTerm_4 rfl ?_
  refine wt_iald t dX10_writeTerm_5 (by assumption) rfl (by omega) ?_
  try first | rw [hl] | rw [hs] | skip
  refine wa_istore_n dX10_writeTerm_6 (by decide) ?_
  refine wa_aload_n dX10_writeTerm_7 rfl ?_
  refine wt_getR dX10_writeTerm_8 FX10_9 (by assumption) (by assumption) ?_
  refine wa_aload_n dX10_writeTerm_11 rfl ?_
  refine wt_getI dX10_writeTerm_12 FX10_22 (by assumption) ?_
  try first | rw [hl] | rw [hs] | skip
  refine wa_iload_n dX10_writeTerm_15 rfl ?_
  refine wa_if_lt 34 dX10_writeTerm_16 (by decide) (by exact ⟨by omega, by omega⟩) (fun c_16 => ?_) (fun c_16 => ?_)
  · omega
  · refine wa_iload_n dX10_writeTerm_19 rfl ?_
    refine wa_bipush dX10_writeTerm_20 rfl ?_
    refine wa_icmp_ge 34 dX10_writeTerm_22 (by decide) (by exact ⟨by omega, by omega⟩) (by exact ⟨by omega, by omega⟩) (fun c_22 => ?_) (fun c_22 => ?_)
    · omega
    · exact wa_charAt dX10_writeTerm_25 dX10_writeTerm_27 dX10_writeTerm_28 LX10_44 (Or.inr ⟨rfl, rfl⟩) rfl hs7 (by decide) (Nat.le_of_ble_eq_true rfl) after
end S54
