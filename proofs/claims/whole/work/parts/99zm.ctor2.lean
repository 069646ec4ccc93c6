/-! ===== 99zm: the constructors ===== -/
set_option maxRecDepth 20000 in
theorem HZ.i {ks : List (Nat × Nat)} {rs : List (Nat × Nat × Nat)} {I : Nat → Nat → Int} {L : Nat → Nat → Int64} (h : HZ ks rs I L) {i : Nat} {f : Nat → Int} (hi : i < ks.length) : HZ ks rs (va_up I i f) L := by
  refine ⟨h.1, fun a ha => ?_, h.2.2⟩
  rw [vup_n (by omega)]
  exact h.2.1 a ha
def iQ (ks : List (Nat × Nat)) (rs : List (Nat × Nat × Nat)) (I : Nat → Nat → Int) (L : Nat → Nat → Int64) (n : Nat) : Option tmV → tmH → Prop := fun v h => v = none ∧ h = (HB ks rs, I, L) ∧ HZ ks rs I L ∧ ks.length = n
set_option maxRecDepth 20000 in
theorem iQ.mk {ks ks' : List (Nat × Nat)} {rs rs' : List (Nat × Nat × Nat)} {I : Nat → Nat → Int} {L : Nat → Nat → Int64} {n n' : Nat} (e1 : ks = ks') (e2 : rs = rs') (hz : HZ ks rs I L) (hn : ks.length = n) (e3 : n = n') : iQ ks' rs' I L n' none (HB ks rs, I, L) := by
  subst e1; subst e2; subst e3
  exact ⟨rfl, rfl, hz, hn⟩
set_option maxRecDepth 20000 in
theorem ob_r {ks : List (Nat × Nat)} {rs rs' : List (Nat × Nat × Nat)} {i ci : Nat} (h : tmObj (HB ks rs) i ci) : tmObj (HB ks rs') i ci := h
set_option maxRecDepth 20000 in
theorem ar_r {ks : List (Nat × Nat)} {rs rs' : List (Nat × Nat × Nat)} {i kd nn : Nat} (h : tmArr (HB ks rs) i kd nn) : tmArr (HB ks rs') i kd nn := h
def xkT : List (Nat × Nat) := [(13, 50), (13, 50), (13, 50), (13, 50), (13, 50)]
def xrT (o n : Nat) : List (Nat × Nat × Nat) := [(o, 1, n), (o, 2, n + 1), (o, 3, n + 2), (o, 4, n + 3), (o, 5, n + 4)]
def xkP (m : Nat) : List (Nat × Nat) := [(13, m), (13, m), (13, m), (13, m)]
def xrP (o n : Nat) : List (Nat × Nat × Nat) := [(o, 2, n), (o, 3, n + 1), (o, 4, n + 2), (o, 5, n + 3)]
def xkS : List (Nat × Nat) := (8, 0) :: xkT ++ (15, 6) :: (2, 0) :: xkP 0
def xrS (o n : Nat) : List (Nat × Nat × Nat) := xrT n (n + 1) ++ (o, 0, n) :: (o, 1, n + 6) :: (xrP (n + 7) (n + 8) ++ (o, 3, n + 7) :: (List.range' 0 6).map (fun r => (n + 6, r, n + 7)))
set_option maxRecDepth 20000 in
theorem xrT_ne {o n x : Nat} (h : o ≠ x) : ∀ q ∈ xrT o n, q.1 ≠ x := by
  intro q hq
  simp only [xrT, List.mem_cons, List.not_mem_nil, or_false] at hq
  rcases hq with rfl | rfl | rfl | rfl | rfl <;> exact h
set_option maxRecDepth 20000 in
theorem xrP_ne {o n x : Nat} (h : o ≠ x) : ∀ q ∈ xrP o n, q.1 ≠ x := by
  intro q hq
  simp only [xrP, List.mem_cons, List.not_mem_nil, or_false] at hq
  rcases hq with rfl | rfl | rfl | rfl <;> exact h
set_option maxRecDepth 20000 in
theorem xrS_ne {o n x : Nat} (h : o ≠ x) (h2 : x < n) : ∀ q ∈ xrS o n, q.1 ≠ x := by
  intro q hq
  unfold xrS at hq
  rcases List.mem_append.mp hq with z | z
  · exact xrT_ne (by omega) q z
  · rcases List.mem_cons.mp z with rfl | z
    · exact h
    · rcases List.mem_cons.mp z with rfl | z
      · exact h
      · rcases List.mem_append.mp z with z | z
        · exact xrP_ne (by omega) q z
        · rcases List.mem_cons.mp z with rfl | z
          · exact h
          · obtain ⟨r, -, rfl⟩ := List.mem_map.mp z
            show n + 6 ≠ x
            omega
section S99zm
variable {ks : List (Nat × Nat)} {rs : List (Nat × Nat × Nat)} {I : Nat → Nat → Int} {L : Nat → Nat → Int64} {n o : Nat}
set_option maxRecDepth 20000 in
theorem c_iX8 (hz : HZ ks rs I L) (hn : ks.length = n) (ho : tmObj (HB ks rs) o 8) (h0 : I o = fun _ => 0) : tmC yX8_init kX8_init 2 5 250 [tR o] (HB ks rs, I, L) (iQ (ks ++ xkT) (rs ++ xrT o n) I L (n + 5)) := by
  refine tmC.mk (lv := [some (tR o)]) 0 ⟨rfl, by decide +kernel, by decide⟩ rfl rfl ?_
  refine wa_aload_n dX8_init_0 rfl ?_
  refine wa_objInit dX8_init_1 LX8_3 Oinst Ocode (by decide) (Nat.le_of_ble_eq_true rfl) ?_
  refine wa_aload_n dX8_init_4 rfl ?_
  refine wa_iconst dX8_init_5 ?_
  refine wb_put0 dX8_init_6 FX8_9 (WX8_0 _ _) (by repeat (first | exact ob_r ho | refine ob_k (rs := []) ?_)) (z_at h0) ?_
  refine wa_aload_n dX8_init_9 rfl ?_
  refine wa_bipush dX8_init_10 rfl ?_
  refine wb_newaI dX8_init_12 Aint rfl (by decide) rfl rfl hz hn (fun hz hn => ?_)
  refine wb_putR dX8_init_14 FX8_15 WX8_1 (by repeat (first | exact ob_r ho | refine ob_k (rs := []) ?_)) hz (fun hz => ?_)
  refine wa_aload_n dX8_init_17 rfl ?_
  refine wa_bipush dX8_init_18 rfl ?_
  refine wb_newaI dX8_init_20 Aint rfl (by decide) rfl rfl hz hn (fun hz hn => ?_)
  refine wb_putR dX8_init_22 FX8_19 WX8_2 (by repeat (first | exact ob_r ho | refine ob_k (rs := []) ?_)) hz (fun hz => ?_)
  refine wa_aload_n dX8_init_25 rfl ?_
  refine wa_bipush dX8_init_26 rfl ?_
  refine wb_newaI dX8_init_28 Aint rfl (by decide) rfl rfl hz hn (fun hz hn => ?_)
  refine wb_putR dX8_init_30 FX8_22 WX8_3 (by repeat (first | exact ob_r ho | refine ob_k (rs := []) ?_)) hz (fun hz => ?_)
  refine wa_aload_n dX8_init_33 rfl ?_
  refine wa_bipush dX8_init_34 rfl ?_
  refine wb_newaI dX8_init_36 Aint rfl (by decide) rfl rfl hz hn (fun hz hn => ?_)
  refine wb_putR dX8_init_38 FX8_25 WX8_4 (by repeat (first | exact ob_r ho | refine ob_k (rs := []) ?_)) hz (fun hz => ?_)
  refine wa_aload_n dX8_init_41 rfl ?_
  refine wa_bipush dX8_init_42 rfl ?_
  refine wb_newaI dX8_init_44 Aint rfl (by decide) rfl rfl hz hn (fun hz hn => ?_)
  refine wb_putR dX8_init_46 FX8_28 WX8_5 (by repeat (first | exact ob_r ho | refine ob_k (rs := []) ?_)) hz (fun hz => ?_)
  refine wa_return dX8_init_49 rfl ?_
  exact iQ.mk (by simp only [xkT, List.append_assoc, List.cons_append, List.nil_append]) (by simp only [xrT, List.append_assoc, List.cons_append, List.nil_append, Nat.add_assoc, Nat.reduceAdd]) hz hn rfl
set_option maxRecDepth 20000 in
theorem c_iX2 {m : Nat} (hm : m ≤ 120) (hz : HZ ks rs I L) (hn : ks.length = n) (ho : tmObj (HB ks rs) o 2) (h0 : I o = fun _ => 0) : tmC yX2_init kX2_init 2 4 (4 * m) [tR o, tI m] (HB ks rs, I, L) (iQ (ks ++ xkP m) (rs ++ xrP o n) I L (n + 4)) := by
  refine tmC.mk (lv := [some (tR o), some (tI m), none]) 1 ⟨rfl, by decide +kernel, by decide⟩ rfl rfl ?_
  refine wa_aload_n dX2_init_0 rfl ?_
  refine wa_objInit dX2_init_1 LX2_3 Oinst Ocode (by decide) (Nat.le_of_ble_eq_true rfl) ?_
  refine wa_aload_n dX2_init_4 rfl ?_
  refine wa_iconst dX2_init_5 ?_
  refine wb_put0 dX2_init_6 FX2_9 (WX2_0 _ _) (by repeat (first | exact ob_r ho | refine ob_k (rs := []) ?_)) (z_at h0) ?_
  refine wa_aload_n dX2_init_9 rfl ?_
  refine wa_iconst dX2_init_10 ?_
  refine wb_put0 dX2_init_11 FX2_15 (WX2_1 _ _) (by repeat (first | exact ob_r ho | refine ob_k (rs := []) ?_)) (z_at h0) ?_
  refine wa_iconst dX2_init_14 ?_
  refine wa_iload_n dX2_init_15 rfl ?_
  refine wa_max dX2_init_16 LX2_18 (by decide) (Nat.le_of_ble_eq_true rfl) (by first | exact hI _ _ | exact ⟨by omega, by omega⟩ | assumption) (by first | exact hI _ _ | exact ⟨by omega, by omega⟩ | assumption) ?_
  rw [show (if (0 : Int) < (m : Int) then (m : Int) else 0) = (m : Int) by split <;> omega]
  refine wa_istore_n dX2_init_19 (by decide) ?_
  refine wa_aload_n dX2_init_20 rfl ?_
  refine wa_iload_n dX2_init_21 rfl ?_
  refine wb_newaI dX2_init_22 Aint rfl (by omega) rfl (show 3 * m + m = 4 * m by omega) hz hn (fun hz hn => ?_)
  refine wb_putR dX2_init_24 FX2_24 WX2_2 (by repeat (first | exact ob_r ho | refine ob_k (rs := []) ?_)) hz (fun hz => ?_)
  refine wa_aload_n dX2_init_27 rfl ?_
  refine wa_iload_n dX2_init_28 rfl ?_
  refine wb_newaI dX2_init_29 Aint rfl (by omega) rfl (show 2 * m + m = 3 * m by omega) hz hn (fun hz hn => ?_)
  refine wb_putR dX2_init_31 FX2_28 WX2_3 (by repeat (first | exact ob_r ho | refine ob_k (rs := []) ?_)) hz (fun hz => ?_)
  refine wa_aload_n dX2_init_34 rfl ?_
  refine wa_iload_n dX2_init_35 rfl ?_
  refine wb_newaI dX2_init_36 Aint rfl (by omega) rfl (show m + m = 2 * m by omega) hz hn (fun hz hn => ?_)
  refine wb_putR dX2_init_38 FX2_31 WX2_4 (by repeat (first | exact ob_r ho | refine ob_k (rs := []) ?_)) hz (fun hz => ?_)
  refine wa_aload_n dX2_init_41 rfl ?_
  refine wa_iload_n dX2_init_42 rfl ?_
  refine wb_newaI dX2_init_43 Aint rfl (by omega) rfl (show 0 + m = m by omega) hz hn (fun hz hn => ?_)
  refine wb_putR dX2_init_45 FX2_34 WX2_5 (by repeat (first | exact ob_r ho | refine ob_k (rs := []) ?_)) hz (fun hz => ?_)
  refine wa_return dX2_init_48 rfl ?_
  exact iQ.mk (by simp only [xkP, List.append_assoc, List.cons_append, List.nil_append]) (by simp only [xrP, List.append_assoc, List.cons_append, List.nil_append, Nat.add_assoc, Nat.reduceAdd]) hz hn rfl
set_option maxRecDepth 20000 in
theorem iX6_loop {a b : Nat} (ho : tmObj (HB ks []) o 6) (ha : tmArr (HB ks []) a 15 6) (hb : tmObj (HB ks []) b 2) (hoa : o ≠ a) (hn : ks.length = n) : ∀ (k j : Nat) (rs : List (Nat × Nat × Nat)), j + k = 6 → HZ ks rs I L → RF2 rs o 1 = some a → RF2 rs o 3 = some b → tmW kX6_init 3 0 0 43 [some (tR o), some (tI j)] [] (HB ks rs, I, L) (iQ ks (rs ++ (List.range' j k).map (fun r => (a, r, b))) I L n) := by
  intro k
  induction k with
  | zero =>
    intro j rs hj hz r1 r3
    refine wa_iload_n dX6_init_43 rfl ?_
    refine wa_bipush dX6_init_44 rfl ?_
    refine wa_icmp_ge 65 dX6_init_46 (by decide) (by first | exact hI _ _ | exact ⟨by omega, by omega⟩ | assumption) (by first | exact hI _ _ | exact ⟨by omega, by omega⟩ | assumption) (fun c_46 => ?_) (fun c_46 => ?_)
    · refine wa_return dX6_init_65 rfl ?_
      exact iQ.mk rfl (List.append_nil _).symm hz hn rfl
    · omega
  | succ k ih =>
    intro j rs hj hz r1 r3
    refine wa_iload_n dX6_init_43 rfl ?_
    refine wa_bipush dX6_init_44 rfl ?_
    refine wa_icmp_ge 65 dX6_init_46 (by decide) (by first | exact hI _ _ | exact ⟨by omega, by omega⟩ | assumption) (by first | exact hI _ _ | exact ⟨by omega, by omega⟩ | assumption) (fun c_46 => ?_) (fun c_46 => ?_)
    · omega
    · refine wa_aload_n dX6_init_49 rfl ?_
      refine wt_getR dX6_init_50 FX6_20 (ob_r ho) r1 ?_
      refine wa_iload_n dX6_init_53 rfl ?_
      refine wa_aload_n dX6_init_54 rfl ?_
      refine wt_getR dX6_init_55 FX6_31 (ob_r ho) r3 ?_
      refine wb_aast j dX6_init_58 (Or.inl ⟨rfl, rfl⟩) (ar_r ha) (ob_r hb) rfl (by omega) hz (fun hz => ?_)
      refine wa_iinc dX6_init_59 rfl (by decide) ?_
      refine wa_goto 43 dX6_init_62 (by decide) ?_
      have := ih (j + 1) (rs ++ [(a, j, b)]) (by omega) hz (by rw [RF2_miss (Or.inl hoa)]; exact r1) (by rw [RF2_miss (Or.inl hoa)]; exact r3)
      rw [List.append_assoc] at this
      exact this
set_option maxRecDepth 20000 in
theorem c_iX6 (hon : o < n) (hz : HZ ks rs I L) (hn : ks.length = n) (ho : tmObj (HB ks rs) o 6) (h0 : I o = fun _ => 0) : tmC yX6_init kX6_init 3 12 268 [tR o] (HB ks rs, I, L) (iQ (ks ++ xkS) (rs ++ xrS o n) I L (n + 12)) := by
  refine tmC.mk (lv := [some (tR o), none]) 1 ⟨rfl, by decide +kernel, by decide⟩ rfl rfl ?_
  refine wa_aload_n dX6_init_0 rfl ?_
  refine wa_objInit dX6_init_1 LX6_3 Oinst Ocode (by decide) (Nat.le_of_ble_eq_true rfl) ?_
  refine wa_aload_n dX6_init_4 rfl ?_
  have hz0 := hz
  have hn0 := hn
  refine wb_new dX6_init_5 CL8 NX6_9 IX8 JX8 rfl rfl hz hn (fun hz hn => ?_)
  refine wa_dup dX6_init_8 rfl ?_
  refine wa_callIN dX6_init_9 KX8_init (fun _ _ _ h => h.2.2.2.1) (c_iX8 hz hn (ob_n hn0) (hz0.2.1 _ (Nat.le_of_eq hn0))) (by decide) rfl (Nat.le_of_ble_eq_true rfl) rfl rfl (fun r h' hq => ?_)
  obtain ⟨rfl, rfl, hz, hn⟩ := hq
  refine wb_putR dX6_init_12 FX6_12 WX6_0 (by repeat (first | exact ob_r ho | refine ob_k (rs := []) ?_)) hz (fun hz => ?_)
  refine wa_aload_n dX6_init_15 rfl ?_
  refine wa_bipush dX6_init_16 rfl ?_
  have hn6 := hn
  refine wb_anewP dX6_init_18 NX6_18 rfl (by decide) rfl rfl hz hn (fun hz hn => ?_)
  refine wb_putR dX6_init_21 FX6_20 WX6_1 (by repeat (first | exact ob_r ho | refine ob_k (rs := []) ?_)) hz (fun hz => ?_)
  refine wa_aload_n dX6_init_24 rfl ?_
  refine wa_iconst dX6_init_25 ?_
  refine wb_put0 dX6_init_26 FX6_24 (WX6_2 _ _) (by repeat (first | exact ob_r ho | refine ob_k (rs := []) ?_)) (z_at h0) ?_
  refine wa_aload_n dX6_init_29 rfl ?_
  have hz1 := hz
  have hn1 := hn
  refine wb_new dX6_init_30 CL2 NX6_18 IX2 JX2 rfl rfl hz hn (fun hz hn => ?_)
  refine wa_dup dX6_init_33 rfl ?_
  refine wa_iconst dX6_init_34 ?_
  refine wa_callI dX6_init_35 KX2_init LX6_28 (c_iX2 (m := 0) (by decide) hz hn (ob_n hn1) (hz1.2.1 _ (Nat.le_of_eq hn1))) (by decide) rfl (Nat.le_of_ble_eq_true rfl) rfl rfl (fun r h' hq => ?_)
  obtain ⟨rfl, rfl, hz, hn⟩ := hq
  refine wb_putR dX6_init_38 FX6_31 WX6_3 (by repeat (first | exact ob_r ho | refine ob_k (rs := []) ?_)) hz (fun hz => ?_)
  refine wa_iconst dX6_init_41 ?_
  refine wa_istore_n dX6_init_42 (by decide) ?_
  refine tmW.wk (iX6_loop (a := n + 6) (b := n + 7) (by repeat (first | exact ob_r ho | refine ob_k (rs := []) ?_)) (by repeat (first | exact ar_n hn6 (by decide) | refine ar_k (rs := []) ?_)) (by repeat (first | exact ob_n hn1 | refine ob_k (rs := []) ?_)) (by omega) hn 6 0 _ rfl hz ?_ RF2_hit) (fun r h' hq => ?_)
  · rw [RF2_miss (Or.inr (by decide)), RF2_app (xrP_ne (by omega))]
    exact RF2_hit
  · obtain ⟨rfl, rfl, hz, hn⟩ := hq
    exact iQ.mk (by simp only [xkS, List.append_assoc, List.cons_append, List.nil_append]) (by simp only [xrS, List.append_assoc, List.cons_append, List.nil_append, Nat.add_assoc, Nat.reduceAdd]) hz hn rfl
end S99zm
