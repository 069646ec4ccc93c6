/-! ===== 99zn: the constructors, further ===== -/
def xkSs : Nat → List (Nat × Nat)
  | 0 => []
  | j + 1 => (6, 0) :: (xkS ++ xkSs j)
def xrSs (a : Nat) : Nat → Nat → Nat → List (Nat × Nat × Nat)
  | 0, _, _ => []
  | k + 1, j, n => xrS n (n + 1) ++ (a, j, n) :: xrSs a k (j + 1) (n + 13)
section S99zn
variable {I : Nat → Nat → Int} {L : Nat → Nat → Int64} {o : Nat}
set_option maxRecDepth 20000 in
theorem iX7_loop {a : Nat} (hoa : o ≠ a) : ∀ (k j n : Nat) (ks : List (Nat × Nat)) (rs : List (Nat × Nat × Nat)), j + k = 9 → HZ ks rs I L → ks.length = n → tmObj (HB ks []) o 7 → tmArr (HB ks []) a 16 9 → RF2 rs o 0 = some a → tmW kX7_init 4 (13 * k) (272 * k) 25 [some (tR o), some (tI j)] [] (HB ks rs, I, L) (iQ (ks ++ xkSs k) (rs ++ xrSs a k j n) I L (n + 13 * k)) := by
  intro k
  induction k with
  | zero =>
    intro j n ks rs hj hz hn ho ha r0
    refine wa_iload_n dX7_init_25 rfl ?_
    refine wa_bipush dX7_init_26 rfl ?_
    refine wa_icmp_ge 50 dX7_init_28 (by decide) (by first | exact hI _ _ | exact ⟨by omega, by omega⟩ | assumption) (by first | exact hI _ _ | exact ⟨by omega, by omega⟩ | assumption) (fun c_28 => ?_) (fun c_28 => ?_)
    · refine wa_return dX7_init_50 rfl ?_
      exact iQ.mk (List.append_nil _).symm (List.append_nil _).symm hz hn rfl
    · omega
  | succ k ih =>
    intro j n ks rs hj hz hn ho ha r0
    have hon : o < n := by have := ho.1; rw [← hn]; exact this
    refine wa_iload_n dX7_init_25 rfl ?_
    refine wa_bipush dX7_init_26 rfl ?_
    refine wa_icmp_ge 50 dX7_init_28 (by decide) (by first | exact hI _ _ | exact ⟨by omega, by omega⟩ | assumption) (by first | exact hI _ _ | exact ⟨by omega, by omega⟩ | assumption) (fun c_28 => ?_) (fun c_28 => ?_)
    · omega
    · refine wa_aload_n dX7_init_31 rfl ?_
      refine wt_getR dX7_init_32 FX7_13 (ob_r ho) r0 ?_
      refine wa_iload_n dX7_init_35 rfl ?_
      have hz0 := hz
      have hn0 := hn
      refine wb_new dX7_init_36 CL6 NX7_11 IX6 JX6 (show 13 * k + 12 + 1 = 13 * (k + 1) by omega) (show 272 * k + 268 + 4 = 272 * (k + 1) by omega) hz hn (fun hz hn => ?_)
      refine wa_dup dX7_init_39 rfl ?_
      refine wa_callI dX7_init_40 KX6_init LX7_24 (c_iX6 (by omega) hz hn (ob_n hn0) (hz0.2.1 _ (Nat.le_of_eq hn0))) (by decide) rfl (Nat.le_of_ble_eq_true rfl) rfl rfl (fun r h' hq => ?_)
      obtain ⟨rfl, rfl, hz, hn⟩ := hq
      refine wb_aast j dX7_init_43 (Or.inr ⟨rfl, rfl⟩) (show tmArr _ a 16 9 by repeat (first | exact ar_r ha | refine ar_k (rs := []) ?_)) (by repeat (first | exact ob_n hn0 | refine ob_k (rs := []) ?_)) rfl (by omega) hz (fun hz => ?_)
      refine wa_iinc dX7_init_44 rfl (by decide) ?_
      refine wa_goto 25 dX7_init_47 (by decide) ?_
      have := ih (j + 1) _ _ _ (by omega) hz hn (by repeat (first | exact ho | refine ob_k (rs := []) ?_)) (by repeat (first | exact ha | refine ar_k (rs := []) ?_)) (by rw [RF2_miss (Or.inl hoa), RF2_app (xrS_ne (by omega) (by omega))]; exact r0)
      refine tmW.wk this (fun r h' hq => ?_)
      obtain ⟨rfl, rfl, hz, hn⟩ := hq
      exact iQ.mk (by simp only [xkSs, List.append_assoc, List.cons_append, List.nil_append]) (by simp only [xrSs, List.append_assoc, List.cons_append, List.nil_append, Nat.add_assoc, Nat.reduceAdd]) hz hn (by omega)
variable {ks : List (Nat × Nat)} {rs : List (Nat × Nat × Nat)} {n : Nat}
set_option maxRecDepth 20000 in
theorem c_iX7 (hon : o < n) (hz : HZ ks rs I L) (hn : ks.length = n) (ho : tmObj (HB ks rs) o 7) (h0 : I o = fun _ => 0) : tmC yX7_init kX7_init 4 118 2457 [tR o] (HB ks rs, I, L) (iQ (ks ++ (16, 9) :: xkSs 9) (rs ++ (o, 0, n) :: xrSs n 9 0 (n + 1)) I L (n + 118)) := by
  refine tmC.mk (lv := [some (tR o), none]) 1 ⟨rfl, by decide +kernel, by decide⟩ rfl rfl ?_
  refine wa_aload_n dX7_init_0 rfl ?_
  refine wa_objInit dX7_init_1 LX7_3 Oinst Ocode (by decide) (Nat.le_of_ble_eq_true rfl) ?_
  refine wa_aload_n dX7_init_4 rfl ?_
  refine wa_bipush dX7_init_5 rfl ?_
  have hn0 := hn
  refine wb_anewS dX7_init_7 NX7_11 rfl (by decide) rfl rfl hz hn (fun hz hn => ?_)
  refine wb_putR dX7_init_10 FX7_13 WX7_0 (by repeat (first | exact ob_r ho | refine ob_k (rs := []) ?_)) hz (fun hz => ?_)
  refine wa_aload_n dX7_init_13 rfl ?_
  refine wa_iconst dX7_init_14 ?_
  refine wb_put0 dX7_init_15 FX7_17 (WX7_1 _ _) (by repeat (first | exact ob_r ho | refine ob_k (rs := []) ?_)) (z_at h0) ?_
  refine wa_aload_n dX7_init_18 rfl ?_
  refine wa_iconst dX7_init_19 ?_
  refine wb_put0 dX7_init_20 FX7_21 (WX7_2 _ _) (by repeat (first | exact ob_r ho | refine ob_k (rs := []) ?_)) (z_at h0) ?_
  refine wa_iconst dX7_init_23 ?_
  refine wa_istore_n dX7_init_24 (by decide) ?_
  refine tmW.wk (iX7_loop (a := n) (by omega) 9 0 _ _ _ rfl hz hn (ob_k (rs := []) (ob_r ho)) (ar_n hn0 (by decide)) RF2_hit) (fun r h' hq => ?_)
  obtain ⟨rfl, rfl, hz, hn⟩ := hq
  exact iQ.mk (by simp only [List.append_assoc, List.cons_append, List.nil_append]) (by simp only [List.append_assoc, List.cons_append, List.nil_append]) hz hn rfl
set_option maxRecDepth 20000 in
theorem c_iX5 (hz : HZ ks rs I L) (hn : ks.length = n) (ho : tmObj (HB ks rs) o 5) (h0 : I o = fun _ => 0) (h1 : L o = fun _ => 0) : tmC yX5_init kX5_init 2 6 2811 [tR o] (HB ks rs, I, L) (iQ (ks ++ [(13, 2604), (13, 50), (14, 7), (14, 50), (14, 50), (13, 50)]) (rs ++ [(o, 0, n), (o, 1, n + 1), (o, 3, n + 2), (o, 5, n + 3), (o, 6, n + 4), (o, 7, n + 5)]) (va_up I n (tmFill (I n) 2604 (-1))) L (n + 6)) := by
  have hn0 := hn
  refine tmC.mk (lv := [some (tR o)]) 0 ⟨rfl, by decide +kernel, by decide⟩ rfl rfl ?_
  refine wa_aload_n dX5_init_0 rfl ?_
  refine wa_objInit dX5_init_1 LX5_3 Oinst Ocode (by decide) (Nat.le_of_ble_eq_true rfl) ?_
  refine wa_aload_n dX5_init_4 rfl ?_
  refine wa_sipush dX5_init_5 rfl ?_
  refine wb_newaI dX5_init_8 Aint rfl (by decide) rfl rfl hz hn (fun hz hn => ?_)
  refine wb_putR dX5_init_10 FX5_11 WX5_0 (by repeat (first | exact ob_r ho | refine ob_k (rs := []) ?_)) hz (fun hz => ?_)
  refine wa_aload_n dX5_init_13 rfl ?_
  refine wa_bipush dX5_init_14 rfl ?_
  refine wb_newaI dX5_init_16 Aint rfl (by decide) rfl rfl hz hn (fun hz hn => ?_)
  refine wb_putR dX5_init_18 FX5_15 WX5_1 (by repeat (first | exact ob_r ho | refine ob_k (rs := []) ?_)) hz (fun hz => ?_)
  refine wa_aload_n dX5_init_21 rfl ?_
  refine wa_iconst dX5_init_22 ?_
  refine wb_put0 dX5_init_23 FX5_18 (WX5_2 _ _) (by repeat (first | exact ob_r ho | refine ob_k (rs := []) ?_)) (z_at h0) ?_
  refine wa_aload_n dX5_init_26 rfl ?_
  refine wa_bipush dX5_init_27 rfl ?_
  refine wb_newaL dX5_init_29 Along rfl (by decide) rfl rfl hz hn (fun hz hn => ?_)
  refine wb_putR dX5_init_31 FX5_22 WX5_3 (by repeat (first | exact ob_r ho | refine ob_k (rs := []) ?_)) hz (fun hz => ?_)
  refine wa_aload_n dX5_init_34 rfl ?_
  refine wa_lconst (v := 0) dX5_init_35 rfl ?_
  refine wb_put0L dX5_init_36 FX5_26 (WX5_4 _ _) (by repeat (first | exact ob_r ho | refine ob_k (rs := []) ?_)) (z_L h1) ?_
  refine wa_aload_n dX5_init_39 rfl ?_
  refine wa_bipush dX5_init_40 rfl ?_
  refine wb_newaL dX5_init_42 Along rfl (by decide) rfl rfl hz hn (fun hz hn => ?_)
  refine wb_putR dX5_init_44 FX5_30 WX5_5 (by repeat (first | exact ob_r ho | refine ob_k (rs := []) ?_)) hz (fun hz => ?_)
  refine wa_aload_n dX5_init_47 rfl ?_
  refine wa_bipush dX5_init_48 rfl ?_
  refine wb_newaL dX5_init_50 Along rfl (by decide) rfl rfl hz hn (fun hz hn => ?_)
  refine wb_putR dX5_init_52 FX5_33 WX5_6 (by repeat (first | exact ob_r ho | refine ob_k (rs := []) ?_)) hz (fun hz => ?_)
  refine wa_aload_n dX5_init_55 rfl ?_
  refine wa_bipush dX5_init_56 rfl ?_
  refine wb_newaI dX5_init_58 Aint rfl (by decide) rfl rfl hz hn (fun hz hn => ?_)
  refine wb_putR dX5_init_60 FX5_36 WX5_7 (by repeat (first | exact ob_r ho | refine ob_k (rs := []) ?_)) hz (fun hz => ?_)
  refine wa_aload_n dX5_init_63 rfl ?_
  refine wt_getR dX5_init_64 FX5_11 (by repeat (first | exact ob_r ho | refine ob_k (rs := []) ?_)) (show RF2 _ o 0 = some n by repeat (first | exact RF2_hit | rw [RF2_miss (Or.inr (by decide))])) ?_
  refine wa_iconst dX5_init_67 ?_
  refine wa_callSf dX5_init_68 KJ7_fill_53178 LX5_39 (c_fillI (show tmArr _ n 13 2604 by repeat (first | exact ar_n hn0 (by decide) | refine ar_k (rs := []) ?_)) (-1) ⟨by decide, by decide⟩) (by decide) rfl rfl (Nat.le_of_ble_eq_true rfl) rfl rfl ?_
  refine wa_return dX5_init_71 rfl ?_
  exact iQ.mk (by simp only [List.append_assoc, List.cons_append, List.nil_append]) (by simp only [List.append_assoc, List.cons_append, List.nil_append, Nat.add_assoc, Nat.reduceAdd]) (hz.i (by rw [hn]; omega)) hn rfl
set_option maxRecDepth 20000 in
theorem c_iX0 {t : Nat} (hz : HZ ks rs I L) (hn : ks.length = n) (ho : tmObj (HB ks rs) o 0) : tmC yX0_init kX0_init 2 2 123 [tR o, tR t] (HB ks rs, I, L) (iQ (ks ++ [(13, 3), (13, 120)]) (rs ++ [(o, 1, n), (o, 2, n + 1), (o, 0, t)]) I L (n + 2)) := by
  refine tmC.mk (lv := [some (tR o), some (tR t)]) 0 ⟨rfl, by decide +kernel, by decide⟩ rfl rfl ?_
  refine wa_aload_n dX0_init_0 rfl ?_
  refine wa_objInit dX0_init_1 LX0_3 Oinst Ocode (by decide) (Nat.le_of_ble_eq_true rfl) ?_
  refine wa_aload_n dX0_init_4 rfl ?_
  refine wa_iconst dX0_init_5 ?_
  refine wb_newaI dX0_init_6 Aint rfl (by decide) rfl rfl hz hn (fun hz hn => ?_)
  refine wb_putR dX0_init_8 FX0_9 WX0_1 (by repeat (first | exact ob_r ho | refine ob_k (rs := []) ?_)) hz (fun hz => ?_)
  refine wa_aload_n dX0_init_11 rfl ?_
  refine wa_bipush dX0_init_12 rfl ?_
  refine wb_newaI dX0_init_14 Aint rfl (by decide) rfl rfl hz hn (fun hz hn => ?_)
  refine wb_putR dX0_init_16 FX0_15 WX0_2 (by repeat (first | exact ob_r ho | refine ob_k (rs := []) ?_)) hz (fun hz => ?_)
  refine wa_aload_n dX0_init_19 rfl ?_
  refine wa_aload_n dX0_init_20 rfl ?_
  refine wb_putR dX0_init_21 FX0_18 WX0_0 (by repeat (first | exact ob_r ho | refine ob_k (rs := []) ?_)) hz (fun hz => ?_)
  refine wa_return dX0_init_24 rfl ?_
  exact iQ.mk (by simp only [List.append_assoc, List.cons_append, List.nil_append]) (by simp only [List.append_assoc, List.cons_append, List.nil_append, Nat.add_assoc, Nat.reduceAdd]) hz hn rfl
set_option maxRecDepth 20000 in
theorem c_iX1 {m : Nat} (hm : m ≤ 1200) (hz : HZ ks rs I L) (hn : ks.length = n) (ho : tmObj (HB ks rs) o 1) (h0 : I o = fun _ => 0) : tmC yX1_init kX1_init 2 1 m [tR o, tI m] (HB ks rs, I, L) (iQ (ks ++ [(14, m)]) (rs ++ [(o, 0, n)]) I L (n + 1)) := by
  refine tmC.mk (lv := [some (tR o), some (tI m)]) 0 ⟨rfl, by decide +kernel, by decide⟩ rfl rfl ?_
  refine wa_aload_n dX1_init_0 rfl ?_
  refine wa_objInit dX1_init_1 LX1_3 Oinst Ocode (by decide) (Nat.le_of_ble_eq_true rfl) ?_
  refine wa_aload_n dX1_init_4 rfl ?_
  refine wa_iconst dX1_init_5 ?_
  refine wb_put0 dX1_init_6 FX1_9 (WX1_1 _ _) (by repeat (first | exact ob_r ho | refine ob_k (rs := []) ?_)) (z_at h0) ?_
  refine wa_aload_n dX1_init_9 rfl ?_
  refine wa_iconst dX1_init_10 ?_
  refine wa_iload_n dX1_init_11 rfl ?_
  refine wa_max dX1_init_12 LX1_15 (by decide) (Nat.le_of_ble_eq_true rfl) (by first | exact hI _ _ | exact ⟨by omega, by omega⟩ | assumption) (by first | exact hI _ _ | exact ⟨by omega, by omega⟩ | assumption) ?_
  rw [show (if (0 : Int) < (m : Int) then (m : Int) else 0) = (m : Int) by split <;> omega]
  refine wb_newaL dX1_init_15 Along rfl (by omega) rfl (Nat.zero_add m) hz hn (fun hz hn => ?_)
  refine wb_putR dX1_init_17 FX1_21 WX1_0 (by repeat (first | exact ob_r ho | refine ob_k (rs := []) ?_)) hz (fun hz => ?_)
  refine wa_return dX1_init_20 rfl ?_
  exact iQ.mk rfl rfl hz hn rfl
set_option maxRecDepth 20000 in
theorem c_iX4 {a b : Nat} (hon : o < n) (hz : HZ ks rs I L) (hn : ks.length = n) (ho : tmObj (HB ks rs) o 4) : tmC yX4_init kX4_init 3 5 375 [tR o, tR a, tR b] (HB ks rs, I, L) (iQ (ks ++ [(1, 0), (14, 200), (13, 50), (13, 120), (13, 3)]) (rs ++ [(n, 0, n + 1), (o, 2, n), (o, 4, n + 2), (o, 5, n + 3), (o, 6, n + 4), (o, 0, a), (o, 1, b)]) (va_up I o (va_up (I o) 3 (-1))) L (n + 5)) := by
  refine tmC.mk (lv := [some (tR o), some (tR a), some (tR b)]) 0 ⟨rfl, by decide +kernel, by decide⟩ rfl rfl ?_
  refine wa_aload_n dX4_init_0 rfl ?_
  refine wa_objInit dX4_init_1 LX4_3 Oinst Ocode (by decide) (Nat.le_of_ble_eq_true rfl) ?_
  refine wa_aload_n dX4_init_4 rfl ?_
  have hz0 := hz
  have hn0 := hn
  refine wb_new dX4_init_5 CL1 NX4_9 IX1 JX1 rfl rfl hz hn (fun hz hn => ?_)
  refine wa_dup dX4_init_8 rfl ?_
  refine wa_sipush dX4_init_9 rfl ?_
  refine wa_callI dX4_init_12 KX1_init LX4_11 (c_iX1 (m := 200) (by decide) hz hn (ob_n hn0) (hz0.2.1 _ (Nat.le_of_eq hn0))) (by decide) rfl (Nat.le_of_ble_eq_true rfl) rfl rfl (fun r h' hq => ?_)
  obtain ⟨rfl, rfl, hz, hn⟩ := hq
  refine wb_putR dX4_init_15 FX4_14 WX4_2 (by repeat (first | exact ob_r ho | refine ob_k (rs := []) ?_)) hz (fun hz => ?_)
  refine wa_aload_n dX4_init_18 rfl ?_
  refine wa_iconst dX4_init_19 ?_
  refine wt_putI dX4_init_20 FX4_20 (WX4_3 _ _) (by repeat (first | exact ob_r ho | refine ob_k (rs := []) ?_)) (by first | exact hI _ _ | exact ⟨by omega, by omega⟩ | assumption) ?_
  replace hz := hz.i (i := o) (f := va_up (I o) 3 (-1)) (by rw [hn]; omega)
  refine wa_aload_n dX4_init_23 rfl ?_
  refine wa_bipush dX4_init_24 rfl ?_
  refine wb_newaI dX4_init_26 Aint rfl (by decide) rfl rfl hz hn (fun hz hn => ?_)
  refine wb_putR dX4_init_28 FX4_24 WX4_4 (by repeat (first | exact ob_r ho | refine ob_k (rs := []) ?_)) hz (fun hz => ?_)
  refine wa_aload_n dX4_init_31 rfl ?_
  refine wa_bipush dX4_init_32 rfl ?_
  refine wb_newaI dX4_init_34 Aint rfl (by decide) rfl rfl hz hn (fun hz hn => ?_)
  refine wb_putR dX4_init_36 FX4_28 WX4_5 (by repeat (first | exact ob_r ho | refine ob_k (rs := []) ?_)) hz (fun hz => ?_)
  refine wa_aload_n dX4_init_39 rfl ?_
  refine wa_iconst dX4_init_40 ?_
  refine wb_newaI dX4_init_41 Aint rfl (by decide) rfl rfl hz hn (fun hz hn => ?_)
  refine wb_putR dX4_init_43 FX4_31 WX4_6 (by repeat (first | exact ob_r ho | refine ob_k (rs := []) ?_)) hz (fun hz => ?_)
  refine wa_aload_n dX4_init_46 rfl ?_
  refine wa_aload_n dX4_init_47 rfl ?_
  refine wb_putR dX4_init_48 FX4_34 WX4_0 (by repeat (first | exact ob_r ho | refine ob_k (rs := []) ?_)) hz (fun hz => ?_)
  refine wa_aload_n dX4_init_51 rfl ?_
  refine wa_aload_n dX4_init_52 rfl ?_
  refine wb_putR dX4_init_53 FX4_38 WX4_1 (by repeat (first | exact ob_r ho | refine ob_k (rs := []) ?_)) hz (fun hz => ?_)
  refine wa_return dX4_init_56 rfl ?_
  exact iQ.mk (by simp only [List.append_assoc, List.cons_append, List.nil_append]) (by simp only [List.append_assoc, List.cons_append, List.nil_append, Nat.add_assoc, Nat.reduceAdd]) hz hn rfl
set_option maxRecDepth 20000 in
theorem c_iX3 {a b e f : Nat} (hz : HZ ks rs I L) (hn : ks.length = n) (ho : tmObj (HB ks rs) o 3) : tmC yX3_init kX3_init 3 5 2458 [tR o, tR a, tR b, tR e, tR f] (HB ks rs, I, L) (iQ (ks ++ [(1, 0), (14, 1200), (13, 1200), (13, 51), (13, 5)]) (rs ++ [(n, 0, n + 1), (o, 4, n), (o, 5, n + 2), (o, 6, n + 3), (o, 7, n + 4), (o, 0, a), (o, 1, b), (o, 2, e), (o, 3, f)]) I L (n + 5)) := by
  refine tmC.mk (lv := [some (tR o), some (tR a), some (tR b), some (tR e), some (tR f)]) 0 ⟨rfl, by decide +kernel, by decide⟩ rfl rfl ?_
  refine wa_aload_n dX3_init_0 rfl ?_
  refine wa_objInit dX3_init_1 LX3_3 Oinst Ocode (by decide) (Nat.le_of_ble_eq_true rfl) ?_
  refine wa_aload_n dX3_init_4 rfl ?_
  have hz0 := hz
  have hn0 := hn
  refine wb_new dX3_init_5 CL1 NX3_9 IX1 JX1 rfl rfl hz hn (fun hz hn => ?_)
  refine wa_dup dX3_init_8 rfl ?_
  refine wa_sipush dX3_init_9 rfl ?_
  refine wa_callI dX3_init_12 KX1_init LX3_13 (c_iX1 (m := 1200) (by decide) hz hn (ob_n hn0) (hz0.2.1 _ (Nat.le_of_eq hn0))) (by decide) rfl (Nat.le_of_ble_eq_true rfl) rfl rfl (fun r h' hq => ?_)
  obtain ⟨rfl, rfl, hz, hn⟩ := hq
  refine wb_putR dX3_init_15 FX3_16 WX3_4 (by repeat (first | exact ob_r ho | refine ob_k (rs := []) ?_)) hz (fun hz => ?_)
  refine wa_aload_n dX3_init_18 rfl ?_
  refine wa_sipush dX3_init_19 rfl ?_
  refine wb_newaI dX3_init_22 Aint rfl (by decide) rfl rfl hz hn (fun hz hn => ?_)
  refine wb_putR dX3_init_24 FX3_20 WX3_5 (by repeat (first | exact ob_r ho | refine ob_k (rs := []) ?_)) hz (fun hz => ?_)
  refine wa_aload_n dX3_init_27 rfl ?_
  refine wa_bipush dX3_init_28 rfl ?_
  refine wb_newaI dX3_init_30 Aint rfl (by decide) rfl rfl hz hn (fun hz hn => ?_)
  refine wb_putR dX3_init_32 FX3_24 WX3_6 (by repeat (first | exact ob_r ho | refine ob_k (rs := []) ?_)) hz (fun hz => ?_)
  refine wa_aload_n dX3_init_35 rfl ?_
  refine wa_iconst dX3_init_36 ?_
  refine wb_newaI dX3_init_37 Aint rfl (by decide) rfl rfl hz hn (fun hz hn => ?_)
  refine wb_putR dX3_init_39 FX3_27 WX3_7 (by repeat (first | exact ob_r ho | refine ob_k (rs := []) ?_)) hz (fun hz => ?_)
  refine wa_aload_n dX3_init_42 rfl ?_
  refine wa_aload_n dX3_init_43 rfl ?_
  refine wb_putR dX3_init_44 FX3_30 WX3_0 (by repeat (first | exact ob_r ho | refine ob_k (rs := []) ?_)) hz (fun hz => ?_)
  refine wa_aload_n dX3_init_47 rfl ?_
  refine wa_aload_n dX3_init_48 rfl ?_
  refine wb_putR dX3_init_49 FX3_34 WX3_1 (by repeat (first | exact ob_r ho | refine ob_k (rs := []) ?_)) hz (fun hz => ?_)
  refine wa_aload_n dX3_init_52 rfl ?_
  refine wa_aload_n dX3_init_53 rfl ?_
  refine wb_putR dX3_init_54 FX3_38 WX3_2 (by repeat (first | exact ob_r ho | refine ob_k (rs := []) ?_)) hz (fun hz => ?_)
  refine wa_aload_n dX3_init_57 rfl ?_
  refine wa_aload dX3_init_58 rfl ?_
  refine wb_putR dX3_init_60 FX3_42 WX3_3 (by repeat (first | exact ob_r ho | refine ob_k (rs := []) ?_)) hz (fun hz => ?_)
  refine wa_return dX3_init_63 rfl ?_
  exact iQ.mk (by simp only [List.append_assoc, List.cons_append, List.nil_append]) (by simp only [List.append_assoc, List.cons_append, List.nil_append, Nat.add_assoc, Nat.reduceAdd]) hz hn rfl
set_option maxRecDepth 20000 in
theorem c_iX9 {a b : Nat} (hz : HZ ks rs I L) (hn : ks.length = n) (ho : tmObj (HB ks rs) o 9) (h0 : I o = fun _ => 0) : tmC yX9_init kX9_init 3 8 846 [tR o, tR a, tR b] (HB ks rs, I, L) (iQ (ks ++ (13, 120) :: (2, 0) :: (xkP 120 ++ [(13, 120), (13, 120)])) (rs ++ (o, 0, n) :: (xrP (n + 1) (n + 2) ++ [(o, 4, n + 1), (o, 5, n + 6), (o, 6, n + 7), (o, 2, a), (o, 3, b)])) I L (n + 8)) := by
  refine tmC.mk (lv := [some (tR o), some (tR a), some (tR b)]) 0 ⟨rfl, by decide +kernel, by decide⟩ rfl rfl ?_
  refine wa_aload_n dX9_init_0 rfl ?_
  refine wa_objInit dX9_init_1 LX9_3 Oinst Ocode (by decide) (Nat.le_of_ble_eq_true rfl) ?_
  refine wa_aload_n dX9_init_4 rfl ?_
  refine wa_bipush dX9_init_5 rfl ?_
  refine wb_newaI dX9_init_7 Aint rfl (by decide) rfl rfl hz hn (fun hz hn => ?_)
  refine wb_putR dX9_init_9 FX9_9 WX9_0 (by repeat (first | exact ob_r ho | refine ob_k (rs := []) ?_)) hz (fun hz => ?_)
  refine wa_aload_n dX9_init_12 rfl ?_
  refine wa_iconst dX9_init_13 ?_
  refine wb_put0 dX9_init_14 FX9_15 (WX9_1 _ _) (by repeat (first | exact ob_r ho | refine ob_k (rs := []) ?_)) (z_at h0) ?_
  refine wa_aload_n dX9_init_17 rfl ?_
  have hz0 := hz
  have hn0 := hn
  refine wb_new dX9_init_18 CL2 NX9_19 IX2 JX2 rfl rfl hz hn (fun hz hn => ?_)
  refine wa_dup dX9_init_21 rfl ?_
  refine wa_bipush dX9_init_22 rfl ?_
  refine wa_callI dX9_init_24 KX2_init LX9_21 (c_iX2 (m := 120) (by decide) hz hn (ob_n hn0) (hz0.2.1 _ (Nat.le_of_eq hn0))) (by decide) rfl (Nat.le_of_ble_eq_true rfl) rfl rfl (fun r h' hq => ?_)
  obtain ⟨rfl, rfl, hz, hn⟩ := hq
  refine wb_putR dX9_init_27 FX9_24 WX9_4 (by repeat (first | exact ob_r ho | refine ob_k (rs := []) ?_)) hz (fun hz => ?_)
  refine wa_aload_n dX9_init_30 rfl ?_
  refine wa_bipush dX9_init_31 rfl ?_
  refine wb_newaI dX9_init_33 Aint rfl (by decide) rfl rfl hz hn (fun hz hn => ?_)
  refine wb_putR dX9_init_35 FX9_28 WX9_5 (by repeat (first | exact ob_r ho | refine ob_k (rs := []) ?_)) hz (fun hz => ?_)
  refine wa_aload_n dX9_init_38 rfl ?_
  refine wa_bipush dX9_init_39 rfl ?_
  refine wb_newaI dX9_init_41 Aint rfl (by decide) rfl rfl hz hn (fun hz hn => ?_)
  refine wb_putR dX9_init_43 FX9_31 WX9_6 (by repeat (first | exact ob_r ho | refine ob_k (rs := []) ?_)) hz (fun hz => ?_)
  refine wa_aload_n dX9_init_46 rfl ?_
  refine wa_iconst dX9_init_47 ?_
  refine wb_put0 dX9_init_48 FX9_34 (WX9_7 _ _) (by repeat (first | exact ob_r ho | refine ob_k (rs := []) ?_)) (z_at h0) ?_
  refine wa_aload_n dX9_init_51 rfl ?_
  refine wa_iconst dX9_init_52 ?_
  refine wb_put0 dX9_init_53 FX9_37 (WX9_8 _ _) (by repeat (first | exact ob_r ho | refine ob_k (rs := []) ?_)) (z_at h0) ?_
  refine wa_aload_n dX9_init_56 rfl ?_
  refine wa_aload_n dX9_init_57 rfl ?_
  refine wb_putR dX9_init_58 FX9_40 WX9_2 (by repeat (first | exact ob_r ho | refine ob_k (rs := []) ?_)) hz (fun hz => ?_)
  refine wa_aload_n dX9_init_61 rfl ?_
  refine wa_aload_n dX9_init_62 rfl ?_
  refine wb_putR dX9_init_63 FX9_44 WX9_3 (by repeat (first | exact ob_r ho | refine ob_k (rs := []) ?_)) hz (fun hz => ?_)
  refine wa_return dX9_init_66 rfl ?_
  exact iQ.mk (by simp only [List.append_assoc, List.cons_append, List.nil_append]) (by simp only [List.append_assoc, List.cons_append, List.nil_append, Nat.add_assoc, Nat.reduceAdd]) hz hn rfl
set_option maxRecDepth 20000 in
theorem c_iX10 (hz : HZ ks rs I L) (hn : ks.length = n) (ho : tmObj (HB ks rs) o 10) (h0 : I o = fun _ => 0) : tmC yX10_init kX10_init 2 2 555 [tR o] (HB ks rs, I, L) (iQ (ks ++ [(13, 300), (13, 255)]) (rs ++ [(o, 0, n), (o, 1, n + 1)]) I L (n + 2)) := by
  refine tmC.mk (lv := [some (tR o)]) 0 ⟨rfl, by decide +kernel, by decide⟩ rfl rfl ?_
  refine wa_aload_n dX10_init_0 rfl ?_
  refine wa_objInit dX10_init_1 LX10_3 Oinst Ocode (by decide) (Nat.le_of_ble_eq_true rfl) ?_
  refine wa_aload_n dX10_init_4 rfl ?_
  refine wa_sipush dX10_init_5 rfl ?_
  refine wb_newaI dX10_init_8 Aint rfl (by decide) rfl rfl hz hn (fun hz hn => ?_)
  refine wb_putR dX10_init_10 FX10_9 WX10_0 (by repeat (first | exact ob_r ho | refine ob_k (rs := []) ?_)) hz (fun hz => ?_)
  refine wa_aload_n dX10_init_13 rfl ?_
  refine wa_sipush dX10_init_14 rfl ?_
  refine wb_newaI dX10_init_17 Aint rfl (by decide) rfl rfl hz hn (fun hz hn => ?_)
  refine wb_putR dX10_init_19 FX10_15 WX10_1 (by repeat (first | exact ob_r ho | refine ob_k (rs := []) ?_)) hz (fun hz => ?_)
  refine wa_aload_n dX10_init_22 rfl ?_
  refine wa_iconst dX10_init_23 ?_
  refine wb_put0 dX10_init_24 FX10_18 (WX10_2 _ _) (by repeat (first | exact ob_r ho | refine ob_k (rs := []) ?_)) (z_at h0) ?_
  refine wa_aload_n dX10_init_27 rfl ?_
  refine wa_iconst dX10_init_28 ?_
  refine wb_put0 dX10_init_29 FX10_22 (WX10_3 _ _) (by repeat (first | exact ob_r ho | refine ob_k (rs := []) ?_)) (z_at h0) ?_
  refine wa_return dX10_init_32 rfl ?_
  exact iQ.mk (by simp only [List.append_assoc, List.cons_append, List.nil_append]) (by simp only [List.append_assoc, List.cons_append, List.nil_append, Nat.add_assoc, Nat.reduceAdd]) hz hn rfl
end S99zn
