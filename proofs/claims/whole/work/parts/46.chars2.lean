/-! ===== 46: String.charAt, walked ===== -/
def sgI (i : Nat) : Int := [97, 98, 99, 100, 102, 103, 104].getD i 0
theorem sgI_B : ∀ i, i < 7 → sgB.getD i 0 &&& Int32.ofInt 255 = Int32.ofInt (sgI i) ∧ ((Int32.ofInt (sgI i)).toUInt32 % 65536).toInt32 = Int32.ofInt (sgI i) ∧ narrow .char (.int (Int32.ofInt (sgI i))) = .int (Int32.ofInt (sgI i)) ∧ vp_in (Int32.ofInt (i : Nat)) 7 ∧ (Int32.ofInt (i : Nat)).toNatClampNeg = i ∧ ¬ Int32.ofInt (i : Nat) < 0 ∧ Int32.ofInt (i : Nat) < 7 := by
  intro i hi
  have : i = 0 ∨ i = 1 ∨ i = 2 ∨ i = 3 ∨ i = 4 ∨ i = 5 ∨ i = 6 := by omega
  rcases this with rfl | rfl | rfl | rfl | rfl | rfl | rfl <;> exact ⟨by decide, by decide, rfl, by unfold vp_in; decide, by decide, by decide, by decide⟩
theorem JJ_cs : Cond.fieldLink RJ0 38 RJ0 "COMPACT_STRINGS" "Z" ∈ tmT := tmT_a4 70 (by decide +kernel) rfl
theorem JJ_fm : Cond.fieldLink RJ0 1053 RJ3 "SIOOBE_FORMATTER" "Ljava/util/function/BiFunction;" ∈ tmT := tmT_a4 78 (by decide +kernel) rfl
theorem JJ_co : Cond.fieldLink RJ0 15 RJ0 "coder" "B" ∈ tmT := tmT_a6 54 (by decide +kernel) rfl
theorem JJ_va : Cond.fieldLink RJ0 9 RJ0 "value" "[B" ∈ tmT := tmT_a6 55 (by decide +kernel) rfl
section XM
variable {aK aV : Nat} {h : tmH}
theorem x_chk3 {i : Nat} (hi : i < 7) {v : Value} (hv : v.category = 1) : xC yJ3_checkIndex_8e157 kJ3_checkIndex_8e157 1 aK aV [.int (Int32.ofInt (i : Nat)), .int 7, v] h (tmF (some (tI (i : Nat))) h) := by
  obtain ⟨f1, f2, f3, f4, f5, f6, f7⟩ := sgI_B i hi
  refine xC.mk ⟨rfl, by decide +kernel, rfl⟩ (by intro w hw; simp only [List.mem_cons, List.not_mem_nil, or_false] at hw; rcases hw with rfl | rfl | rfl <;> first | rfl | exact hv) rfl ?_
  refine x_iload_n dJ3_checkIndex_8e157_0 rfl ?_
  intro p l e R s m args below meth c H locs cells slots b0 G ls X hx hc hs hl hR hS
  refine lv_if_lt (tgt := 9) X.1 X.2.1 dJ3_checkIndex_8e157_1 (by decide) (fun z => absurd z f6) (fun _ => ?_)
  refine lv_iload_n X.1 X.2.1 dJ3_checkIndex_8e157_4 rfl (hl.2 0 _ rfl) ?_
  refine lv_iload_n X.1 X.2.1 dJ3_checkIndex_8e157_5 rfl (hl.2 1 _ rfl) ?_
  refine lv_icmp_lt (tgt := 16) X.1 X.2.1 dJ3_checkIndex_8e157_6 (by decide) (fun _ => ?_) (fun z => absurd f7 z)
  refine lv_iload_n X.1 X.2.1 dJ3_checkIndex_8e157_16 rfl (hl.2 0 _ rfl) ?_
  have hlocks := X.2.2.2.2.1
  refine W.widen (k := R.cells) (n := R.slots) (by omega) (by omega) ?_
  exact W.iret X.1 X.2.1 (X.2.2.2.1.trans rfl) (tm_end (r := some (tI (i : Nat))) hR hS ⟨rfl, rfl⟩) hS.2.2 dJ3_checkIndex_8e157_17
theorem x_chk {i : Nat} (hi : i < 7) : xC yJ0_checkIndex_df160 kJ0_checkIndex_df160 2 aK aV [.int (Int32.ofInt (i : Nat)), .int 7] h (tmF none h) := by
  refine xC.mk ⟨rfl, by decide +kernel, rfl⟩ (by intro w hw; simp only [List.mem_cons, List.not_mem_nil, or_false] at hw; rcases hw with rfl | rfl <;> rfl) rfl ?_
  refine x_iload_n dJ0_checkIndex_df160_0 rfl ?_
  refine x_iload_n dJ0_checkIndex_df160_1 rfl ?_
  have tail : ∀ v : Value, v.category = 1 → xW kJ0_checkIndex_df160 2 aK aV 5 [.int (Int32.ofInt (i : Nat)), .int 7] [v, .int 7, .int (Int32.ofInt (i : Nat))] h (tmF none h) := by
    intro v hv
    refine x_callS (av := [.int (Int32.ofInt (i : Nat)), .int 7, v]) (st := []) (w := [.int (Int32.ofInt (i : Nat))]) dJ0_checkIndex_df160_5 KJ3_checkIndex_8e157 LJ0_1059 (x_chk3 hi hv) (by decide) rfl (by decide) (fun _ => rfl) ?_
    intro p l e R s m args below meth c H locs cells slots b0 G ls X hx hc hs hl hR hS
    refine lv_pop X.1 X.2.1 dJ0_checkIndex_df160_8 rfl ?_
    have hlocks := X.2.2.2.2.1
    refine W.widen (k := R.cells) (n := R.slots) (by omega) (by omega) ?_
    exact W.vret X.1 X.2.1 (X.2.2.2.1.trans rfl) (tm_end (r := none) hR hS ⟨rfl, rfl⟩) hS.2.2 dJ0_checkIndex_df160_9
  intro p l e R s m args below meth c H locs cells slots b0 G ls X hx hc hs hl hR hS
  have hts := X.2.2.2.2.2.2.1
  obtain ⟨_, _, _, _, _, _, _, hz⟩ := X.2.2.2.2.2.2.2.1
  rcases hz with hz | ⟨t, hz⟩
  · exact va_gets (ref := RJ3) (own := RJ0) X.1 X.2.1 hz hS X.2.2.2.2.2.1 (hts _ JJ_fm) (fun x hx => hx) dJ0_checkIndex_df160_2 (tail _ rfl p l e R s m args below meth c H locs cells slots b0 G ls X hx hc hs hl hR hS)
  · exact va_gets (ref := RJ3) (own := RJ0) X.1 X.2.1 hz hS X.2.2.2.2.2.1 (hts _ JJ_fm) (fun x hx => hx) dJ0_checkIndex_df160_2 (tail _ rfl p l e R s m args below meth c H locs cells slots b0 G ls X hx hc hs hl hR hS)
theorem x_lat {i : Nat} (hi : i < 7) : xC yJ1_charAt_3b067 kJ1_charAt_3b067 3 aK aV [.ref aV, .int (Int32.ofInt (i : Nat))] h (tmF (some (tI (sgI i))) h) := by
  obtain ⟨f1, f2, f3, f4, f5, f6, f7⟩ := sgI_B i hi
  refine xC.mk ⟨rfl, by decide +kernel, rfl⟩ (by intro w hw; simp only [List.mem_cons, List.not_mem_nil, or_false] at hw; rcases hw with rfl | rfl <;> rfl) rfl ?_
  have tail : xW kJ1_charAt_3b067 3 aK aV 6 [.ref aV, .int (Int32.ofInt (i : Nat))] [] h (tmF (some (tI (sgI i))) h) := by
    refine x_aload_n dJ1_charAt_3b067_6 rfl ?_
    refine x_iload_n dJ1_charAt_3b067_7 rfl ?_
    intro p l e R s m args below meth c H locs cells slots b0 G ls X hx hc hs hl hR hS
    refine va_tb X.1 X.2.1 hx.2.2.2 hS f4 (v := .int (sgB.getD i 0)) (by simp only [f5]) dJ1_charAt_3b067_8 ?_
    refine lv_sipush X.1 X.2.1 dJ1_charAt_3b067_9 (v := Int32.ofInt 255) rfl ?_
    refine lv_iand X.1 X.2.1 dJ1_charAt_3b067_12 ?_
    rw [f1]
    refine lv_i2c X.1 X.2.1 dJ1_charAt_3b067_13 f2 ?_
    have hlocks := X.2.2.2.2.1
    refine W.widen (k := R.cells) (n := R.slots) (by omega) (by omega) ?_
    exact W.zret X.1 X.2.1 (X.2.2.2.1.trans rfl) f3 (tm_end (r := some (tI (sgI i))) hR hS ⟨rfl, rfl⟩) hS.2.2 dJ1_charAt_3b067_14
  have mid : xW kJ1_charAt_3b067 3 aK aV 3 [.ref aV, .int (Int32.ofInt (i : Nat))] [.int 7, .int (Int32.ofInt (i : Nat))] h (tmF (some (tI (sgI i))) h) :=
    x_callS (av := [.int (Int32.ofInt (i : Nat)), .int 7]) (st := []) (w := []) dJ1_charAt_3b067_3 KJ0_checkIndex_df160 LJ1_9 (x_chk hi) (by decide) rfl (by decide) (fun _ => rfl) tail
  refine x_iload_n dJ1_charAt_3b067_0 rfl ?_
  refine x_aload_n dJ1_charAt_3b067_1 rfl ?_
  intro p l e R s m args below meth c H locs cells slots b0 G ls X hx hc hs hl hR hS
  refine va_tlen X.1 X.2.1 hx.2.2.2 hS (v := 7) rfl dJ1_charAt_3b067_2 ?_
  exact mid p l e R s m args below meth c H locs cells slots b0 G ls X hx hc hs hl hR hS
theorem x_isLat : xC yJ0_isLatin1_aae02 kJ0_isLatin1_aae02 1 aK aV [.ref aK] h (tmF (some (tI 1)) h) := by
  refine xC.mk ⟨rfl, by decide +kernel, rfl⟩ (by intro w hw; simp only [List.mem_cons, List.not_mem_nil, or_false] at hw; subst hw; rfl) rfl ?_
  intro p l e R s m args below meth c H locs cells slots b0 G ls X hx hc hs hl hR hS
  have hts := X.2.2.2.2.2.2.1
  obtain ⟨_, _, _, _, _, _, hz, _⟩ := X.2.2.2.2.2.2.2.1
  refine va_gets (ref := RJ0) (own := RJ0) X.1 X.2.1 hz hS X.2.2.2.2.2.1 (hts _ JJ_cs) (fun x hx => hx) dJ0_isLatin1_aae02_0 ?_
  refine lv_if_eq (tgt := 17) X.1 X.2.1 dJ0_isLatin1_aae02_3 (by decide) (fun z => absurd z (by decide)) (fun _ => ?_)
  refine lv_aload_n X.1 X.2.1 dJ0_isLatin1_aae02_6 rfl (hl.2 0 _ rfl) ?_
  refine vk_getf (ref := RJ0) (own := RJ0) X.1 X.2.1 hx.2.1 hS X.2.2.2.2.2.1 (hts _ JJ_co) (fun x hx => hx) dJ0_isLatin1_aae02_7 ?_
  refine lv_if_ne (tgt := 17) X.1 X.2.1 dJ0_isLatin1_aae02_10 (by decide) (fun z => absurd rfl z) (fun _ => ?_)
  refine lv_iconst X.1 X.2.1 dJ0_isLatin1_aae02_13 (v := Int32.ofInt 1) rfl ?_
  refine lv_goto (tgt := 18) X.1 X.2.1 dJ0_isLatin1_aae02_14 (by decide) ?_
  have hlocks := X.2.2.2.2.1
  refine W.widen (k := R.cells) (n := R.slots) (by omega) (by omega) ?_
  exact W.zret X.1 X.2.1 (X.2.2.2.1.trans rfl) rfl (tm_end (r := some (tI 1)) hR hS ⟨rfl, rfl⟩) hS.2.2 dJ0_isLatin1_aae02_18
theorem x_charAt {i : Nat} (hi : i < 7) : xC yJ0_charAt_5068e kJ0_charAt_5068e 4 aK aV [.ref aK, .int (Int32.ofInt (i : Nat))] h (tmF (some (tI (sgI i))) h) := by
  obtain ⟨f1, f2, f3, f4, f5, f6, f7⟩ := sgI_B i hi
  refine xC.mk ⟨rfl, by decide +kernel, rfl⟩ (by intro w hw; simp only [List.mem_cons, List.not_mem_nil, or_false] at hw; rcases hw with rfl | rfl <;> rfl) rfl ?_
  have tail : xW kJ0_charAt_5068e 4 aK aV 12 [.ref aK, .int (Int32.ofInt (i : Nat))] [.int (Int32.ofInt (i : Nat)), .ref aV] h (tmF (some (tI (sgI i))) h) := by
    refine x_callS (av := [.ref aV, .int (Int32.ofInt (i : Nat))]) (st := []) (w := [.int (Int32.ofInt (sgI i))]) dJ0_charAt_5068e_12 KJ1_charAt_3b067 LJ0_495 (x_lat hi) (by decide) rfl (by decide) (fun _ => rfl) ?_
    intro p l e R s m args below meth c H locs cells slots b0 G ls X hx hc hs hl hR hS
    have hlocks := X.2.2.2.2.1
    refine W.widen (k := R.cells) (n := R.slots) (by omega) (by omega) ?_
    exact W.zret X.1 X.2.1 (X.2.2.2.1.trans rfl) f3 (tm_end (r := some (tI (sgI i))) hR hS ⟨rfl, rfl⟩) hS.2.2 dJ0_charAt_5068e_15
  refine x_aload_n dJ0_charAt_5068e_0 rfl ?_
  refine x_callV (av := []) (st := []) (w := [.int 1]) dJ0_charAt_5068e_1 KJ0_isLatin1_aae02 LJ0_492 rfl x_isLat (by decide) rfl (by decide) (fun _ => rfl) ?_
  intro p l e R s m args below meth c H locs cells slots b0 G ls X hx hc hs hl hR hS
  have hts := X.2.2.2.2.2.2.1
  refine lv_if_eq (tgt := 16) X.1 X.2.1 dJ0_charAt_5068e_4 (by decide) (fun z => absurd z (by decide)) (fun _ => ?_)
  refine lv_aload_n X.1 X.2.1 dJ0_charAt_5068e_7 rfl (hl.2 0 _ rfl) ?_
  refine vk_getf (ref := RJ0) (own := RJ0) X.1 X.2.1 hx.2.2.1 hS X.2.2.2.2.2.1 (hts _ JJ_va) (fun x hx => hx) dJ0_charAt_5068e_8 ?_
  refine lv_iload_n X.1 X.2.1 dJ0_charAt_5068e_11 rfl (hl.2 1 _ rfl) ?_
  exact tail p l e R s m args below meth c H locs cells slots b0 G ls X hx hc hs hl hR hS
end XM
