/-! ===== 47: SIGNS.charAt as one row; Text.signOf ===== -/
section S47a
variable {M : tmMS} {d bc bs pc : Nat} {lv : List (Option tmV)} {st : List tmV} {h : tmH} {Q : Option tmV → tmH → Prop}
theorem wa_charAt {k idx i : Nat} {j : Fin 4} (hd1 : decode M.2.1 pc = .ok (.ldc k, 2)) (hd2 : decode M.2.1 (pc + 2) = .ok (.iload_n j, 1)) (hd3 : decode M.2.1 (pc + 2 + 1) = .ok (.invokevirtual idx, 3)) (hl : Cond.methodLink M.1 idx yJ0_charAt_5068e ∈ tmT) (hM : (M.1 = RX9 ∧ k = 134) ∨ (M.1 = RX10 ∧ k = 42)) (hj : tmGet lv j = some (tI (i : Nat))) (hi : i < 7) (hdp : 5 ≤ d) (hcat : (st.map fun v => if tmIsL (some v) then 2 else 1).sum ≤ 8)
    (kk : tmW M d bc bs (pc + 6) lv (tI (sgI i) :: st) h Q) : tmW M d bc bs pc lv st h Q := by
  intro p l e R s m args below meth c H locs cells slots b0 G ls X hc hs hl' hR hS
  have hts := X.2.2.2.2.2.2.1
  have hd1' := X.2.2.2.2.2.2.2.2.1
  have hd2' := X.2.2.2.2.2.2.2.2.2.1
  obtain ⟨_, _, _, _, _, ⟨adK, adV, z1, z2, z3⟩, _⟩ := id X.2.2.2.2.2.2.2.1
  have hx : tmXS b0 (adK 0) (adV 0) s := by
    obtain ⟨w1, w2, w3, w4⟩ := z1.1 0 (by decide)
    exact ⟨w1, w2, w3, w4⟩
  have hz : vk_R M.1 k "abcdfgh" (adK 0) s := by
    rcases hM with ⟨m1, m2⟩ | ⟨m1, m2⟩
    · rw [m1, m2]; exact z2
    · rw [m1, m2]; exact z3
  refine va_ldcS (own := M.1) X.1 X.2.1 X.2.2.2.2.2.1 hz hd1 ?_
  refine lv_iload_n X.1 X.2.1 hd2 rfl (hl'.at hj) ?_
  have hcat' := tm_cat (b0 := b0) hcat
  have cw : CallW R s args M.1 yJ0_charAt_5068e.cls idx yJ0_charAt_5068e kJ0_charAt_5068e.2.1 kJ0_charAt_5068e.2.2.1 kJ0_charAt_5068e.2.2.2.1 (tmWs yJ0_charAt_5068e kJ0_charAt_5068e) (tmRm 4 0 0) 0 0 1 :=
    ⟨callB_of 1 hts (tm_goodC KJ0_charAt_5068e.1) rfl rfl rfl (hts _ KJ0_charAt_5068e.1.2.1) (hts _ hl) KJ0_charAt_5068e.1.2.2.1 ⟨by show 4 + 1 ≤ _; omega, by show 8 + (2 + 11) + 64 * 4 ≤ _; omega⟩, hts _ KJ0_charAt_5068e.2.1, hts _ KJ0_charAt_5068e.2.2⟩
  have hrecv : ∃ cell : Cell, H[adK 0]? = some cell ∧ cell.vm.isStatics = false ∧ s.vm.findClass yJ0_charAt_5068e.cls = some cell.cls := by
    obtain ⟨cell, h1, h2, h3, -⟩ := hx.1.kept hS.2.1
    exact ⟨cell, h1, h2, h3⟩
  have hrun := va_runV (b := adK 0) (As := [.int (Int32.ofInt (i : Nat))]) (rest := st.map (tmt b0)) (g := F0 m (pc + 2 + 1) ls (.int (Int32.ofInt (i : Nat)) :: .ref (adK 0) :: st.map (tmt b0))) (cells := cells) (slots := slots) (locs := locs) (below := below) (e := e) (meth := meth) (H := H) ⟨X.1, X.2.1, X.2.2.1, X.2.2.2.2.2.1, hts⟩ (x_charAt (aK := adK 0) (aV := adV 0) (h := h) hi l b0 G) cw
    ⟨x_blind, hrecv, fun U hU hW => ⟨rfl, ⟨X.2.2.2.2.2.2.2.1.go hW hU hS, hx.go hW hU hS⟩, by rw [hU]; exact hR⟩⟩ rfl rfl hl'.1 rfl (lv_room (m := m) (pc := pc) (ls := ls) (rest := []) hcat') hd3 ⟨by omega, by omega⟩
  exact tm_cont (st := st) hrun hS (fun r h' H1 locs1 hq hR1 hS1 => by
    obtain ⟨rfl, rfl⟩ := hq
    exact kk p l e R s m args below meth c H1 locs1 (cells + 0) (slots + 0) b0 G ls X (by omega) (by omega) hl' hR1 hS1)
end S47a
/-- the SIGN or LETTER of a byte -/
def sgOf (c : Int) : Int := if 120 ≤ c ∧ c ≤ 122 then c - 113 else if 97 ≤ c ∧ c ≤ 100 then c - 97 else if 102 ≤ c ∧ c ≤ 104 then c - 98 else -1
section S47
variable {S : tmS} {I : Nat → Nat → Int} {L : Nat → Nat → Int64}
theorem sgI_r : ∀ i, i < 7 → inR (sgI i) := by
  intro i hi
  have : i = 0 ∨ i = 1 ∨ i = 2 ∨ i = 3 ∨ i = 4 ∨ i = 5 ∨ i = 6 := by omega
  rcases this with rfl | rfl | rfl | rfl | rfl | rfl | rfl <;> exact ⟨by decide, by decide⟩
theorem sgI_of {i : Nat} (hi : i < 7) {c : Int} (h : sgI i = c) : sgOf c = (i : Int) := by
  subst h
  have : i = 0 ∨ i = 1 ∨ i = 2 ∨ i = 3 ∨ i = 4 ∨ i = 5 ∨ i = 6 := by omega
  rcases this with rfl | rfl | rfl | rfl | rfl | rfl | rfl <;> decide
theorem sgI_no {c : Int} (hx : ¬ (120 ≤ c ∧ c ≤ 122)) (h : ∀ i, i < 7 → sgI i ≠ c) : sgOf c = -1 := by
  have h0 := h 0 (by decide); have h1 := h 1 (by decide); have h2 := h 2 (by decide); have h3 := h 3 (by decide); have h4 := h 4 (by decide); have h5 := h 5 (by decide); have h6 := h 6 (by decide)
  simp [sgI] at h0 h1 h2 h3 h4 h5 h6
  unfold sgOf
  rw [if_neg hx, if_neg (by omega), if_neg (by omega)]
set_option maxRecDepth 20000 in
theorem signOf_loop (c : Int) (hc : inR c) (hx : ¬ (120 ≤ c ∧ c ≤ 122)) : ∀ (m i : Nat), i + m = 7 → (∀ j, j < i → sgI j ≠ c) →
    tmW kX9_signOf 5 0 0 22 [some (tI c), some (tI i)] [] (S, I, L) (tmF (some (tI (sgOf c))) (S, I, L)) := by
  intro m
  induction m with
  | zero =>
    intro i hi hno
    have : i = 7 := by omega
    subst this
    rw [sgI_no hx hno]
    refine wa_iload_n dX9_signOf_22 rfl ?_
    refine wa_bipush dX9_signOf_23 rfl ?_
    refine wa_icmp_ge 46 dX9_signOf_25 (by decide) (by exact ⟨by omega, by omega⟩) (by exact ⟨by omega, by omega⟩) (fun c_25 => ?_) (fun c_25 => ?_)
    · refine wa_iconst dX9_signOf_46 ?_
      refine wa_ireturn dX9_signOf_47 rfl ?_
      exact ⟨rfl, rfl⟩
    · omega
  | succ m ih =>
    intro i hi hno
    have hi7 : i < 7 := by omega
    have hr := sgI_r i hi7
    have after : tmW kX9_signOf 5 0 0 34 [some (tI c), some (tI i)] [tI (sgI i)] (S, I, L) (tmF (some (tI (sgOf c))) (S, I, L)) := by
      refine wa_iload_n dX9_signOf_34 rfl ?_
      refine wa_icmp_ne 40 dX9_signOf_35 (by decide) (by first | exact hr | exact hc | exact ⟨by omega, by omega⟩) (by first | exact hr | exact hc | exact ⟨by omega, by omega⟩) (fun c_35 => ?_) (fun c_35 => ?_)
      · refine wa_iinc dX9_signOf_40 rfl (by decide) ?_
        refine wa_goto 22 dX9_signOf_43 (by decide) ?_
        refine ih (i + 1) (by omega) (fun j hj => ?_)
        by_cases z : j = i
        · subst z; exact c_35
        · exact hno j (by omega)
      · refine wa_iload_n dX9_signOf_38 rfl ?_
        refine wa_ireturn dX9_signOf_39 rfl ?_
        rw [sgI_of hi7 c_35]; exact ⟨rfl, rfl⟩
    refine wa_iload_n dX9_signOf_22 rfl ?_
    refine wa_bipush dX9_signOf_23 rfl ?_
    refine wa_icmp_ge 46 dX9_signOf_25 (by decide) (by exact ⟨by omega, by omega⟩) (by exact ⟨by omega, by omega⟩) (fun c_25 => ?_) (fun c_25 => ?_)
    · omega
    · exact wa_charAt dX9_signOf_28 dX9_signOf_30 dX9_signOf_31 LX9_136 (Or.inl ⟨rfl, rfl⟩) rfl hi7 (by decide) (by decide) after
set_option maxRecDepth 20000 in
theorem c_signOf (c : Int) (hc : inR c) : tmC yX9_signOf kX9_signOf 5 0 0 [tI c] (S, I, L) (tmF (some (tI (sgOf c))) (S, I, L)) := by
  refine tmC.mk (lv := [some (tI c), none]) 1 ⟨rfl, by decide +kernel, by decide⟩ rfl rfl ?_
  have hlp := fun (hx : ¬ (120 ≤ c ∧ c ≤ 122)) => signOf_loop (S := S) (I := I) (L := L) c hc hx 7 0 (by omega) (fun j hj => by omega)
  refine wa_iload_n dX9_signOf_0 rfl ?_
  refine wa_bipush dX9_signOf_1 rfl ?_
  refine wa_icmp_lt 20 dX9_signOf_3 (by decide) (by first | exact hc | exact ⟨by omega, by omega⟩) (by first | exact hc | exact ⟨by omega, by omega⟩) (fun c_3 => ?_) (fun c_3 => ?_)
  · refine wa_iconst dX9_signOf_20 ?_
    refine wa_istore_n dX9_signOf_21 (by decide) ?_
    exact hlp (by omega)
  · refine wa_iload_n dX9_signOf_6 rfl ?_
    refine wa_bipush dX9_signOf_7 rfl ?_
    refine wa_icmp_gt 20 dX9_signOf_9 (by decide) (by first | exact hc | exact ⟨by omega, by omega⟩) (by first | exact hc | exact ⟨by omega, by omega⟩) (fun c_9 => ?_) (fun c_9 => ?_)
    · refine wa_iconst dX9_signOf_20 ?_
      refine wa_istore_n dX9_signOf_21 (by decide) ?_
      exact hlp (by omega)
    · refine wa_bipush dX9_signOf_12 rfl ?_
      refine wa_iload_n dX9_signOf_14 rfl ?_
      refine wa_iadd dX9_signOf_15 ?_
      refine wa_bipush dX9_signOf_16 rfl ?_
      refine wa_isub dX9_signOf_18 ?_
      refine wa_ireturn dX9_signOf_19 rfl ?_
      unfold sgOf
      rw [if_pos ⟨by omega, by omega⟩]
      exact ⟨by congr 2; omega, rfl⟩
end S47
