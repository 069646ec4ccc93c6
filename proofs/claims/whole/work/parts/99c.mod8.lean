/-! ===== 99c: the reference: sizeOf, signAt, lettersOf, signsOf ===== -/
set_option maxRecDepth 20000 in
theorem or0_8 : ∀ m, m < 8 → Int32.ofInt ((m : Nat) : Int) ||| Int32.ofInt 0 = Int32.ofInt ((m : Nat) : Int) := by decide
def letF (w : List Int) (m : Nat) : Nat := w.foldl (fun (m : Nat) (s : Int) => if 7 ≤ s then m ||| 1 <<< (s - 7).toNat else m) m
set_option maxRecDepth 20000 in
theorem letF_lt : ∀ (w : List Int) (m : Nat), (∀ s ∈ w, s ≤ 9) → m < 8 → letF w m < 8 := by
  intro w
  induction w with
  | nil => intro m _ hm; exact hm
  | cons s w ih =>
    intro m h9 hm
    have h9s := h9 s List.mem_cons_self
    unfold letF
    rw [List.foldl_cons]
    refine ih _ (fun x hx => h9 x (List.mem_cons_of_mem _ hx)) ?_
    split
    · exact (tm_or8 m hm (s - 7).toNat (by omega)).2
    · exact hm
set_option maxRecDepth 20000 in
theorem drop_at {w : List Int} {k : Nat} (hk : k < w.length) : w.drop k = w.getD k 0 :: w.drop (k + 1) := by
  rw [List.drop_eq_getElem_cons hk, List.getD_eq_getElem?_getD, List.getElem?_eq_getElem hk]; rfl
set_option maxRecDepth 20000 in
theorem getD_mem {w : List Int} {k : Nat} (hk : k < w.length) : w.getD k 0 ∈ w := by
  rw [List.getD_eq_getElem?_getD, List.getElem?_eq_getElem hk]; exact List.getElem_mem hk
set_option maxRecDepth 20000 in
theorem getRl {rl : RuL} {r : Nat} (hr : r < rl.length) : rl[r]? = some (rl.getD r ([], [])) := by
  rw [List.getD_eq_getElem?_getD, List.getElem?_eq_getElem hr]; rfl
section S99c
variable {S : tmS} {I : Nat → Nat → Int} {L : Nat → Nat → Int64}
/-- a RULE of the reference: the words of it -/
def MW (I : Nat → Nat → Int) (r : Nat) (wl wr : List Int) : Prop := r < 6 ∧ wl.length + wr.length ≤ 120 ∧ I 169 (252 + r) = (wl.length : Int) ∧ I 169 (258 + r) = (wr.length : Int) ∧ (∀ k, k < wl.length → I 169 (264 + 120 * r + k) = wl.getD k 0) ∧ (∀ k, k < wr.length → I 169 (264 + 120 * r + wl.length + k) = wr.getD k 0) ∧ (∀ s ∈ wl, 0 ≤ s ∧ s ≤ 9) ∧ (∀ s ∈ wr, 0 ≤ s ∧ s ≤ 9)
set_option maxRecDepth 20000 in
theorem MRl.mw {rl : RuL} (h : MRl (I 169) rl) (h6 : rl.length ≤ 6) (hok : RlOK rl) {r : Nat} (hr : r < rl.length) : MW I r (rlL rl r) (rlR rl r) := by
  obtain ⟨a, b, c, d⟩ := h.2 r _ (getRl hr)
  obtain ⟨o1, o2, o3, o4, o5, o6, o7⟩ := hok.at hr
  exact ⟨by omega, o5, a, b, c, d, o1, o2⟩
set_option maxRecDepth 20000 in
theorem MW.row {J : Nat → Nat → Int} {r : Nat} {wl wr : List Int} (h : MW I r wl wr) (e : J 169 = I 169) : MW J r wl wr := by unfold MW; rw [e]; exact h
set_option maxRecDepth 20000 in
theorem c_msizeL (hL : LX S) {r : Nat} {wl wr : List Int} (h : MW I r wl wr) : tmC yX12_sizeOf kX12_sizeOf 1 0 0 [tR 168, tI r, tI 1] (S, I, L) (tmF (some (tI (wl.length : Nat))) (S, I, L)) := by
  refine tmC.mk (lv := [some (tR 168), some (tI r), some (tI 1)]) 0 ⟨rfl, by decide +kernel, by decide⟩ rfl rfl ?_
  have o168 := oX168 hL
  have r168_0 := rX168_0 hL
  have r168_1 := rX168_1 hL
  have r168_3 := rX168_3 hL
  have r168_4 := rX168_4 hL
  have r168_5 := rX168_5 hL
  have r168_6 := rX168_6 hL
  have r168_7 := rX168_7 hL
  have r168_8 := rX168_8 hL
  have r168_11 := rX168_11 hL
  have r168_13 := rX168_13 hL
  have r168_17 := rX168_17 hL
  have r168_18 := rX168_18 hL
  have r168_19 := rX168_19 hL
  have r168_21 := rX168_21 hL
  have r168_22 := rX168_22 hL
  have r168_23 := rX168_23 hL
  have r168_24 := rX168_24 hL
  have r168_25 := rX168_25 hL
  have r168_26 := rX168_26 hL
  have r168_27 := rX168_27 hL
  have r168_28 := rX168_28 hL
  have r168_29 := rX168_29 hL
  have r168_30 := rX168_30 hL
  have o169 := oX169 hL
  have h6 := h.1
  have e := h.2.2.1
  refine wa_aload_n dX12_sizeOf_0 rfl ?_
  refine wt_getR dX12_sizeOf_1 FX12_7 (by assumption) (by assumption) ?_
  refine wa_iload_n dX12_sizeOf_4 rfl ?_
  refine wa_if_eq 14 dX12_sizeOf_5 (by decide) (by exact ⟨by omega, by omega⟩) (fun c_5 => ?_) (fun c_5 => ?_)
  · omega
  · refine wa_sipush dX12_sizeOf_8 rfl ?_
    refine wa_goto 17 dX12_sizeOf_11 (by decide) ?_
    refine wa_iload_n dX12_sizeOf_17 rfl ?_
    refine wa_iadd dX12_sizeOf_18 ?_
    refine wt_iald (252 + r) dX12_sizeOf_19 (by assumption) (by omega) (by omega) ?_
    refine wa_ireturn dX12_sizeOf_20 rfl ?_
    exact ⟨by rw [e], rfl⟩
set_option maxRecDepth 20000 in
theorem c_msizeR (hL : LX S) {r : Nat} {wl wr : List Int} (h : MW I r wl wr) : tmC yX12_sizeOf kX12_sizeOf 1 0 0 [tR 168, tI r, tI 0] (S, I, L) (tmF (some (tI (wr.length : Nat))) (S, I, L)) := by
  refine tmC.mk (lv := [some (tR 168), some (tI r), some (tI 0)]) 0 ⟨rfl, by decide +kernel, by decide⟩ rfl rfl ?_
  have o168 := oX168 hL
  have r168_0 := rX168_0 hL
  have r168_1 := rX168_1 hL
  have r168_3 := rX168_3 hL
  have r168_4 := rX168_4 hL
  have r168_5 := rX168_5 hL
  have r168_6 := rX168_6 hL
  have r168_7 := rX168_7 hL
  have r168_8 := rX168_8 hL
  have r168_11 := rX168_11 hL
  have r168_13 := rX168_13 hL
  have r168_17 := rX168_17 hL
  have r168_18 := rX168_18 hL
  have r168_19 := rX168_19 hL
  have r168_21 := rX168_21 hL
  have r168_22 := rX168_22 hL
  have r168_23 := rX168_23 hL
  have r168_24 := rX168_24 hL
  have r168_25 := rX168_25 hL
  have r168_26 := rX168_26 hL
  have r168_27 := rX168_27 hL
  have r168_28 := rX168_28 hL
  have r168_29 := rX168_29 hL
  have r168_30 := rX168_30 hL
  have o169 := oX169 hL
  have h6 := h.1
  have e := h.2.2.2.1
  refine wa_aload_n dX12_sizeOf_0 rfl ?_
  refine wt_getR dX12_sizeOf_1 FX12_7 (by assumption) (by assumption) ?_
  refine wa_iload_n dX12_sizeOf_4 rfl ?_
  refine wa_if_eq 14 dX12_sizeOf_5 (by decide) (by exact ⟨by omega, by omega⟩) (fun c_5 => ?_) (fun c_5 => ?_)
  · refine wa_sipush dX12_sizeOf_14 rfl ?_
    refine wa_iload_n dX12_sizeOf_17 rfl ?_
    refine wa_iadd dX12_sizeOf_18 ?_
    refine wt_iald (258 + r) dX12_sizeOf_19 (by assumption) (by omega) (by omega) ?_
    refine wa_ireturn dX12_sizeOf_20 rfl ?_
    exact ⟨by rw [e], rfl⟩
  · omega
set_option maxRecDepth 20000 in
theorem c_msignL (hL : LX S) {r : Nat} {wl wr : List Int} (h : MW I r wl wr) {k : Nat} (hk : k < wl.length) : tmC yX12_signAt kX12_signAt 1 0 0 [tR 168, tI r, tI 1, tI k] (S, I, L) (tmF (some (tI (wl.getD k 0))) (S, I, L)) := by
  refine tmC.mk (lv := [some (tR 168), some (tI r), some (tI 1), some (tI k)]) 0 ⟨rfl, by decide +kernel, by decide⟩ rfl rfl ?_
  have o168 := oX168 hL
  have r168_0 := rX168_0 hL
  have r168_1 := rX168_1 hL
  have r168_3 := rX168_3 hL
  have r168_4 := rX168_4 hL
  have r168_5 := rX168_5 hL
  have r168_6 := rX168_6 hL
  have r168_7 := rX168_7 hL
  have r168_8 := rX168_8 hL
  have r168_11 := rX168_11 hL
  have r168_13 := rX168_13 hL
  have r168_17 := rX168_17 hL
  have r168_18 := rX168_18 hL
  have r168_19 := rX168_19 hL
  have r168_21 := rX168_21 hL
  have r168_22 := rX168_22 hL
  have r168_23 := rX168_23 hL
  have r168_24 := rX168_24 hL
  have r168_25 := rX168_25 hL
  have r168_26 := rX168_26 hL
  have r168_27 := rX168_27 hL
  have r168_28 := rX168_28 hL
  have r168_29 := rX168_29 hL
  have r168_30 := rX168_30 hL
  have o169 := oX169 hL
  obtain ⟨h6, h120, h1, h2, h3, h4, h5, h7⟩ := id h
  refine wa_aload_n dX12_signAt_0 rfl ?_
  refine wt_getR dX12_signAt_1 FX12_7 (by assumption) (by assumption) ?_
  refine wa_sipush dX12_signAt_4 rfl ?_
  refine wa_bipush dX12_signAt_7 rfl ?_
  refine wa_iload_n dX12_signAt_9 rfl ?_
  refine wa_imul dX12_signAt_10 ?_
  refine wa_iadd dX12_signAt_11 ?_
  refine wa_iload_n dX12_signAt_12 rfl ?_
  refine wa_if_eq 20 dX12_signAt_13 (by decide) (by exact ⟨by omega, by omega⟩) (fun c_13 => ?_) (fun c_13 => ?_)
  · omega
  · refine wa_iconst dX12_signAt_16 ?_
    refine wa_goto 30 dX12_signAt_17 (by decide) ?_
    refine wa_iadd dX12_signAt_30 ?_
    refine wa_iload_n dX12_signAt_31 rfl ?_
    refine wa_iadd dX12_signAt_32 ?_
    refine wt_iald (264 + 120 * r + k) dX12_signAt_33 (by assumption) (by omega) (by omega) ?_
    refine wa_ireturn dX12_signAt_34 rfl ?_
    exact ⟨by rw [h3 k hk], rfl⟩
set_option maxRecDepth 20000 in
theorem c_msignR (hL : LX S) {r : Nat} {wl wr : List Int} (h : MW I r wl wr) {k : Nat} (hk : k < wr.length) : tmC yX12_signAt kX12_signAt 1 0 0 [tR 168, tI r, tI 0, tI k] (S, I, L) (tmF (some (tI (wr.getD k 0))) (S, I, L)) := by
  refine tmC.mk (lv := [some (tR 168), some (tI r), some (tI 0), some (tI k)]) 0 ⟨rfl, by decide +kernel, by decide⟩ rfl rfl ?_
  have o168 := oX168 hL
  have r168_0 := rX168_0 hL
  have r168_1 := rX168_1 hL
  have r168_3 := rX168_3 hL
  have r168_4 := rX168_4 hL
  have r168_5 := rX168_5 hL
  have r168_6 := rX168_6 hL
  have r168_7 := rX168_7 hL
  have r168_8 := rX168_8 hL
  have r168_11 := rX168_11 hL
  have r168_13 := rX168_13 hL
  have r168_17 := rX168_17 hL
  have r168_18 := rX168_18 hL
  have r168_19 := rX168_19 hL
  have r168_21 := rX168_21 hL
  have r168_22 := rX168_22 hL
  have r168_23 := rX168_23 hL
  have r168_24 := rX168_24 hL
  have r168_25 := rX168_25 hL
  have r168_26 := rX168_26 hL
  have r168_27 := rX168_27 hL
  have r168_28 := rX168_28 hL
  have r168_29 := rX168_29 hL
  have r168_30 := rX168_30 hL
  have o169 := oX169 hL
  obtain ⟨h6, h120, h1, h2, h3, h4, h5, h7⟩ := id h
  refine wa_aload_n dX12_signAt_0 rfl ?_
  refine wt_getR dX12_signAt_1 FX12_7 (by assumption) (by assumption) ?_
  refine wa_sipush dX12_signAt_4 rfl ?_
  refine wa_bipush dX12_signAt_7 rfl ?_
  refine wa_iload_n dX12_signAt_9 rfl ?_
  refine wa_imul dX12_signAt_10 ?_
  refine wa_iadd dX12_signAt_11 ?_
  refine wa_iload_n dX12_signAt_12 rfl ?_
  refine wa_if_eq 20 dX12_signAt_13 (by decide) (by exact ⟨by omega, by omega⟩) (fun c_13 => ?_) (fun c_13 => ?_)
  · refine wa_aload_n dX12_signAt_20 rfl ?_
    refine wt_getR dX12_signAt_21 FX12_7 (by assumption) (by assumption) ?_
    refine wa_sipush dX12_signAt_24 rfl ?_
    refine wa_iload_n dX12_signAt_27 rfl ?_
    refine wa_iadd dX12_signAt_28 ?_
    refine wt_iald (252 + r) dX12_signAt_29 (by assumption) (by omega) (by omega) ?_
    rw [h1]
    refine wa_iadd dX12_signAt_30 ?_
    refine wa_iload_n dX12_signAt_31 rfl ?_
    refine wa_iadd dX12_signAt_32 ?_
    refine wt_iald (264 + 120 * r + wl.length + k) dX12_signAt_33 (by assumption) (by omega) (by omega) ?_
    refine wa_ireturn dX12_signAt_34 rfl ?_
    exact ⟨by rw [h4 k hk], rfl⟩
  · omega
set_option maxRecDepth 20000 in
theorem mletters_loop (hL : LX S) {r : Nat} {wl wr : List Int} (h : MW I r wl wr) : ∀ (j k m : Nat), k + j = wl.length → m < 8 → tmW kX12_lettersOf 2 0 0 4 [some (tR 168), some (tI r), some (tI m), some (tI k)] [] (S, I, L) (tmF (some (tI (letF (wl.drop k) m : Nat))) (S, I, L)) := by
  intro j
  have o168 := oX168 hL
  have r168_0 := rX168_0 hL
  have r168_1 := rX168_1 hL
  have r168_3 := rX168_3 hL
  have r168_4 := rX168_4 hL
  have r168_5 := rX168_5 hL
  have r168_6 := rX168_6 hL
  have r168_7 := rX168_7 hL
  have r168_8 := rX168_8 hL
  have r168_11 := rX168_11 hL
  have r168_13 := rX168_13 hL
  have r168_17 := rX168_17 hL
  have r168_18 := rX168_18 hL
  have r168_19 := rX168_19 hL
  have r168_21 := rX168_21 hL
  have r168_22 := rX168_22 hL
  have r168_23 := rX168_23 hL
  have r168_24 := rX168_24 hL
  have r168_25 := rX168_25 hL
  have r168_26 := rX168_26 hL
  have r168_27 := rX168_27 hL
  have r168_28 := rX168_28 hL
  have r168_29 := rX168_29 hL
  have r168_30 := rX168_30 hL
  have ks := c_msizeL (L := L) hL h
  have h120 := h.2.1
  have h9 := h.2.2.2.2.2.2.1
  induction j with
  | zero =>
    intro k m hk hm
    have e : letF (wl.drop k) m = m := by rw [List.drop_eq_nil_of_le (by omega)]; rfl
    rw [e]
    refine wa_iload_n dX12_lettersOf_4 rfl ?_
    refine wa_aload_n dX12_lettersOf_5 rfl ?_
    refine wa_iload_n dX12_lettersOf_6 rfl ?_
    refine wa_iconst dX12_lettersOf_7 ?_
    refine wa_callVf (ci := 12) dX12_lettersOf_8 KX12_sizeOf LX12_133 ⟨_, _, rfl, by decide⟩ o168 (ks) (by decide) rfl rfl (Nat.le_of_ble_eq_true rfl) rfl rfl ?_
    refine wa_icmp_ge 51 dX12_lettersOf_11 (by decide) (by exact ⟨by omega, by omega⟩) (by exact ⟨by omega, by omega⟩) (fun c_11 => ?_) (fun c_11 => ?_)
    · refine wa_iload_n dX12_lettersOf_51 rfl ?_
      refine wa_ireturn dX12_lettersOf_52 rfl ?_
      exact ⟨rfl, rfl⟩
    · omega
  | succ j ih =>
    intro k m hk hm
    have ka := c_msignL (L := L) hL h (k := k) (by omega)
    have hs := h9 _ (getD_mem (w := wl) (k := k) (by omega))
    have ed : letF (wl.drop k) m = letF (wl.drop (k + 1)) (if 7 ≤ wl.getD k 0 then m ||| 1 <<< (wl.getD k 0 - 7).toNat else m) := by
      rw [drop_at (by omega)]; rfl
    rw [ed]
    generalize hsv : wl.getD k 0 = s at *
    by_cases c : 7 ≤ s
    · rw [if_pos c]
      obtain ⟨j3, rfl⟩ : ∃ j3 : Nat, s = 7 + (j3 : Int) := ⟨(s - 7).toNat, by omega⟩
      have e7 : (7 + (j3 : Int) - 7).toNat = j3 := by omega
      rw [e7]
      have hor := tm_or8 m hm j3 (by omega)
      have nx := ih (k + 1) (m ||| 1 <<< j3) (by omega) hor.2
      refine wa_iload_n dX12_lettersOf_4 rfl ?_
      refine wa_aload_n dX12_lettersOf_5 rfl ?_
      refine wa_iload_n dX12_lettersOf_6 rfl ?_
      refine wa_iconst dX12_lettersOf_7 ?_
      refine wa_callVf (ci := 12) dX12_lettersOf_8 KX12_sizeOf LX12_133 ⟨_, _, rfl, by decide⟩ o168 (ks) (by decide) rfl rfl (Nat.le_of_ble_eq_true rfl) rfl rfl ?_
      refine wa_icmp_ge 51 dX12_lettersOf_11 (by decide) (by exact ⟨by omega, by omega⟩) (by exact ⟨by omega, by omega⟩) (fun c_11 => ?_) (fun c_11 => ?_)
      · omega
      · refine wa_iload_n dX12_lettersOf_14 rfl ?_
        refine wa_aload_n dX12_lettersOf_15 rfl ?_
        refine wa_iload_n dX12_lettersOf_16 rfl ?_
        refine wa_iconst dX12_lettersOf_17 ?_
        refine wa_iload_n dX12_lettersOf_18 rfl ?_
        refine wa_callVf (ci := 12) dX12_lettersOf_19 KX12_signAt LX12_137 ⟨_, _, rfl, by decide⟩ o168 (ka) (by decide) rfl rfl (Nat.le_of_ble_eq_true rfl) rfl rfl ?_
        refine wa_bipush dX12_lettersOf_22 rfl ?_
        refine wa_icmp_lt 42 dX12_lettersOf_24 (by decide) (by exact ⟨by omega, by omega⟩) (by exact ⟨by omega, by omega⟩) (fun c_24 => ?_) (fun c_24 => ?_)
        · omega
        · refine wa_iconst dX12_lettersOf_27 ?_
          refine wa_aload_n dX12_lettersOf_28 rfl ?_
          refine wa_iload_n dX12_lettersOf_29 rfl ?_
          refine wa_iconst dX12_lettersOf_30 ?_
          refine wa_iload_n dX12_lettersOf_31 rfl ?_
          refine wa_callVf (ci := 12) dX12_lettersOf_32 KX12_signAt LX12_137 ⟨_, _, rfl, by decide⟩ o168 (ka) (by decide) rfl rfl (Nat.le_of_ble_eq_true rfl) rfl rfl ?_
          refine wa_bipush dX12_lettersOf_35 rfl ?_
          refine wa_isub dX12_lettersOf_37 ?_
          rw [show (7 + (j3 : Int) - 7) = ((j3 : Nat) : Int) by omega]
          refine wa_ishl dX12_lettersOf_38 (tm_shl3 j3 (by omega)) ?_
          refine wa_goto 43 dX12_lettersOf_39 (by decide) ?_
          refine wa_ior dX12_lettersOf_43 (tm_orN m hm j3 (by omega)) ?_
          refine wa_istore_n dX12_lettersOf_44 (by decide) ?_
          refine wa_iinc dX12_lettersOf_45 rfl (by decide) ?_
          refine wa_goto 4 dX12_lettersOf_48 (by decide) ?_
          exact nx
    · rw [if_neg c]
      have nx := ih (k + 1) m (by omega) hm
      refine wa_iload_n dX12_lettersOf_4 rfl ?_
      refine wa_aload_n dX12_lettersOf_5 rfl ?_
      refine wa_iload_n dX12_lettersOf_6 rfl ?_
      refine wa_iconst dX12_lettersOf_7 ?_
      refine wa_callVf (ci := 12) dX12_lettersOf_8 KX12_sizeOf LX12_133 ⟨_, _, rfl, by decide⟩ o168 (ks) (by decide) rfl rfl (Nat.le_of_ble_eq_true rfl) rfl rfl ?_
      refine wa_icmp_ge 51 dX12_lettersOf_11 (by decide) (by exact ⟨by omega, by omega⟩) (by exact ⟨by omega, by omega⟩) (fun c_11 => ?_) (fun c_11 => ?_)
      · omega
      · refine wa_iload_n dX12_lettersOf_14 rfl ?_
        refine wa_aload_n dX12_lettersOf_15 rfl ?_
        refine wa_iload_n dX12_lettersOf_16 rfl ?_
        refine wa_iconst dX12_lettersOf_17 ?_
        refine wa_iload_n dX12_lettersOf_18 rfl ?_
        refine wa_callVf (ci := 12) dX12_lettersOf_19 KX12_signAt LX12_137 ⟨_, _, rfl, by decide⟩ o168 (ka) (by decide) rfl rfl (Nat.le_of_ble_eq_true rfl) rfl rfl ?_
        refine wa_bipush dX12_lettersOf_22 rfl ?_
        refine wa_icmp_lt 42 dX12_lettersOf_24 (by decide) (by exact ⟨by omega, by omega⟩) (by exact ⟨by omega, by omega⟩) (fun c_24 => ?_) (fun c_24 => ?_)
        · refine wa_iconst dX12_lettersOf_42 ?_
          refine wa_ior dX12_lettersOf_43 (or0_8 m hm) ?_
          refine wa_istore_n dX12_lettersOf_44 (by decide) ?_
          refine wa_iinc dX12_lettersOf_45 rfl (by decide) ?_
          refine wa_goto 4 dX12_lettersOf_48 (by decide) ?_
          exact nx
        · omega
set_option maxRecDepth 20000 in
theorem c_mletters (hL : LX S) {r : Nat} {wl wr : List Int} (h : MW I r wl wr) : tmC yX12_lettersOf kX12_lettersOf 2 0 0 [tR 168, tI r] (S, I, L) (tmF (some (tI (letW wl : Nat))) (S, I, L)) := by
  refine tmC.mk (lv := [some (tR 168), some (tI r), none, none]) 2 ⟨rfl, by decide +kernel, by decide⟩ rfl rfl ?_
  have lp := mletters_loop (L := L) hL h wl.length 0 0 (by omega) (by omega)
  rw [List.drop_zero] at lp
  have lp : tmW kX12_lettersOf 2 0 0 4 [some (tR 168), some (tI r), some (tI (0 : Nat)), some (tI (0 : Nat))] [] (S, I, L) (tmF (some (tI (letW wl : Nat))) (S, I, L)) := lp
  refine wa_iconst dX12_lettersOf_0 ?_
  refine wa_istore_n dX12_lettersOf_1 (by decide) ?_
  refine wa_iconst dX12_lettersOf_2 ?_
  refine wa_istore_n dX12_lettersOf_3 (by decide) ?_
  exact lp
set_option maxRecDepth 20000 in
theorem msigns_loop (hL : LX S) {r : Nat} {w : List Int} {b : Int} (hb : b = 0 ∨ b = 1) (ks : tmC yX12_sizeOf kX12_sizeOf 1 0 0 [tR 168, tI r, tI b] (S, I, L) (tmF (some (tI (w.length : Nat))) (S, I, L))) (ka : ∀ k, k < w.length → tmC yX12_signAt kX12_signAt 1 0 0 [tR 168, tI r, tI b, tI k] (S, I, L) (tmF (some (tI (w.getD k 0))) (S, I, L))) (h9 : ∀ s ∈ w, 0 ≤ s ∧ s ≤ 9) (h120 : w.length ≤ 120) : ∀ (j k c : Nat), k + j = w.length → c ≤ k → tmW kX12_signsOf 2 0 0 5 [some (tR 168), some (tI r), some (tI b), some (tI c), some (tI k)] [] (S, I, L) (tmF (some (tI ((c + (w.drop k).countP (fun s => decide (s < 7)) : Nat) : Int))) (S, I, L)) := by
  intro j
  have o168 := oX168 hL
  have r168_0 := rX168_0 hL
  have r168_1 := rX168_1 hL
  have r168_3 := rX168_3 hL
  have r168_4 := rX168_4 hL
  have r168_5 := rX168_5 hL
  have r168_6 := rX168_6 hL
  have r168_7 := rX168_7 hL
  have r168_8 := rX168_8 hL
  have r168_11 := rX168_11 hL
  have r168_13 := rX168_13 hL
  have r168_17 := rX168_17 hL
  have r168_18 := rX168_18 hL
  have r168_19 := rX168_19 hL
  have r168_21 := rX168_21 hL
  have r168_22 := rX168_22 hL
  have r168_23 := rX168_23 hL
  have r168_24 := rX168_24 hL
  have r168_25 := rX168_25 hL
  have r168_26 := rX168_26 hL
  have r168_27 := rX168_27 hL
  have r168_28 := rX168_28 hL
  have r168_29 := rX168_29 hL
  have r168_30 := rX168_30 hL
  induction j with
  | zero =>
    intro k c hk hc
    have e : (w.drop k).countP (fun s => decide (s < 7)) = 0 := by rw [List.drop_eq_nil_of_le (by omega)]; rfl
    rw [e]
    refine wa_iload dX12_signsOf_5 rfl ?_
    refine wa_aload_n dX12_signsOf_7 rfl ?_
    refine wa_iload_n dX12_signsOf_8 rfl ?_
    refine wa_iload_n dX12_signsOf_9 rfl ?_
    refine wa_callVf (ci := 12) dX12_signsOf_10 KX12_sizeOf LX12_133 ⟨_, _, rfl, by decide⟩ o168 (ks) (by decide) rfl rfl (Nat.le_of_ble_eq_true rfl) rfl rfl ?_
    refine wa_icmp_ge 43 dX12_signsOf_13 (by decide) (by exact ⟨by omega, by omega⟩) (by exact ⟨by omega, by omega⟩) (fun c_13 => ?_) (fun c_13 => ?_)
    · refine wa_iload_n dX12_signsOf_43 rfl ?_
      refine wa_ireturn dX12_signsOf_44 rfl ?_
      exact ⟨rfl, rfl⟩
    · omega
  | succ j ih =>
    intro k c hk hc
    have k1 := ka k (by omega)
    have hs := h9 _ (getD_mem (w := w) (k := k) (by omega))
    rw [drop_at (by omega), List.countP_cons]
    generalize hsv : w.getD k 0 = s at *
    by_cases z : s < 7
    · have nx := ih (k + 1) (c + 1) (by omega) (by omega)
      rw [show c + 1 + (w.drop (k + 1)).countP (fun s => decide (s < 7)) = c + ((w.drop (k + 1)).countP (fun s => decide (s < 7)) + if decide (s < 7) = true then 1 else 0) by rw [if_pos (by simpa using z)]; omega] at nx
      refine wa_iload dX12_signsOf_5 rfl ?_
      refine wa_aload_n dX12_signsOf_7 rfl ?_
      refine wa_iload_n dX12_signsOf_8 rfl ?_
      refine wa_iload_n dX12_signsOf_9 rfl ?_
      refine wa_callVf (ci := 12) dX12_signsOf_10 KX12_sizeOf LX12_133 ⟨_, _, rfl, by decide⟩ o168 (ks) (by decide) rfl rfl (Nat.le_of_ble_eq_true rfl) rfl rfl ?_
      refine wa_icmp_ge 43 dX12_signsOf_13 (by decide) (by exact ⟨by omega, by omega⟩) (by exact ⟨by omega, by omega⟩) (fun c_13 => ?_) (fun c_13 => ?_)
      · omega
      · refine wa_iload_n dX12_signsOf_16 rfl ?_
        refine wa_aload_n dX12_signsOf_17 rfl ?_
        refine wa_iload_n dX12_signsOf_18 rfl ?_
        refine wa_iload_n dX12_signsOf_19 rfl ?_
        refine wa_iload dX12_signsOf_20 rfl ?_
        refine wa_callVf (ci := 12) dX12_signsOf_22 KX12_signAt LX12_137 ⟨_, _, rfl, by decide⟩ o168 (k1) (by decide) rfl rfl (Nat.le_of_ble_eq_true rfl) rfl rfl ?_
        refine wa_bipush dX12_signsOf_25 rfl ?_
        refine wa_icmp_ge 34 dX12_signsOf_27 (by decide) (by exact ⟨by omega, by omega⟩) (by exact ⟨by omega, by omega⟩) (fun c_27 => ?_) (fun c_27 => ?_)
        · omega
        · refine wa_iconst dX12_signsOf_30 ?_
          refine wa_goto 35 dX12_signsOf_31 (by decide) ?_
          refine wa_iadd dX12_signsOf_35 ?_
          refine wa_istore_n dX12_signsOf_36 (by decide) ?_
          refine wa_iinc dX12_signsOf_37 rfl (by decide) ?_
          refine wa_goto 5 dX12_signsOf_40 (by decide) ?_
          exact nx
    · have nx := ih (k + 1) c (by omega) (by omega)
      rw [show c + (w.drop (k + 1)).countP (fun s => decide (s < 7)) = c + ((w.drop (k + 1)).countP (fun s => decide (s < 7)) + if decide (s < 7) = true then 1 else 0) by rw [if_neg (by simpa using z)]; omega] at nx
      refine wa_iload dX12_signsOf_5 rfl ?_
      refine wa_aload_n dX12_signsOf_7 rfl ?_
      refine wa_iload_n dX12_signsOf_8 rfl ?_
      refine wa_iload_n dX12_signsOf_9 rfl ?_
      refine wa_callVf (ci := 12) dX12_signsOf_10 KX12_sizeOf LX12_133 ⟨_, _, rfl, by decide⟩ o168 (ks) (by decide) rfl rfl (Nat.le_of_ble_eq_true rfl) rfl rfl ?_
      refine wa_icmp_ge 43 dX12_signsOf_13 (by decide) (by exact ⟨by omega, by omega⟩) (by exact ⟨by omega, by omega⟩) (fun c_13 => ?_) (fun c_13 => ?_)
      · omega
      · refine wa_iload_n dX12_signsOf_16 rfl ?_
        refine wa_aload_n dX12_signsOf_17 rfl ?_
        refine wa_iload_n dX12_signsOf_18 rfl ?_
        refine wa_iload_n dX12_signsOf_19 rfl ?_
        refine wa_iload dX12_signsOf_20 rfl ?_
        refine wa_callVf (ci := 12) dX12_signsOf_22 KX12_signAt LX12_137 ⟨_, _, rfl, by decide⟩ o168 (k1) (by decide) rfl rfl (Nat.le_of_ble_eq_true rfl) rfl rfl ?_
        refine wa_bipush dX12_signsOf_25 rfl ?_
        refine wa_icmp_ge 34 dX12_signsOf_27 (by decide) (by exact ⟨by omega, by omega⟩) (by exact ⟨by omega, by omega⟩) (fun c_27 => ?_) (fun c_27 => ?_)
        · refine wa_iconst dX12_signsOf_34 ?_
          refine wa_iadd dX12_signsOf_35 ?_
          rw [Int.add_zero]
          refine wa_istore_n dX12_signsOf_36 (by decide) ?_
          refine wa_iinc dX12_signsOf_37 rfl (by decide) ?_
          refine wa_goto 5 dX12_signsOf_40 (by decide) ?_
          exact nx
        · omega
set_option maxRecDepth 20000 in
theorem c_msigns (hL : LX S) {r : Nat} {w : List Int} {b : Int} (hb : b = 0 ∨ b = 1) (ks : tmC yX12_sizeOf kX12_sizeOf 1 0 0 [tR 168, tI r, tI b] (S, I, L) (tmF (some (tI (w.length : Nat))) (S, I, L))) (ka : ∀ k, k < w.length → tmC yX12_signAt kX12_signAt 1 0 0 [tR 168, tI r, tI b, tI k] (S, I, L) (tmF (some (tI (w.getD k 0))) (S, I, L))) (h9 : ∀ s ∈ w, 0 ≤ s ∧ s ≤ 9) (h120 : w.length ≤ 120) : tmC yX12_signsOf kX12_signsOf 2 0 0 [tR 168, tI r, tI b] (S, I, L) (tmF (some (tI (w.countP (fun s => decide (s < 7)) : Nat))) (S, I, L)) := by
  refine tmC.mk (lv := [some (tR 168), some (tI r), some (tI b), none, none]) 2 ⟨rfl, by decide +kernel, by decide⟩ rfl rfl ?_
  have lp := msigns_loop (L := L) hL hb ks ka h9 h120 w.length 0 0 (by omega) (by omega)
  rw [List.drop_zero, Nat.zero_add] at lp
  refine wa_iconst dX12_signsOf_0 ?_
  refine wa_istore_n dX12_signsOf_1 (by decide) ?_
  refine wa_iconst dX12_signsOf_2 ?_
  refine wa_istore dX12_signsOf_3 (by decide) ?_
  exact lp
end S99c
