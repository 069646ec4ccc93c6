/-! ===== 18: class Standing, its small methods (133: place 134, used 135, usedSize) ===== -/
def tmKey (s p q : Int) : Int := if s < 0 ∨ 6 < s then -1 else if s < 4 then s else if p < 0 ∨ 50 ≤ p then -1 else if s < 6 then 4 + (s - 4) * 50 + p else if q < 0 ∨ 50 ≤ q then -1 else 4 + (2 + p) * 50 + q
theorem tmKey_lt (s p q : Int) : -1 ≤ tmKey s p q ∧ tmKey s p q < 2604 := by unfold tmKey; split; omega; split; omega; split; omega; split; omega; split <;> omega
section S18
variable {S : tmS} {I : Nat → Nat → Int} {L : Nat → Nat → Int64}
set_option maxRecDepth 20000 in
theorem c_keyOf {h : tmH} (s p q : Int) (hs : inR s) (hp : inR p) (hq : inR q) : tmC yX5_keyOf kX5_keyOf 1 0 0 [tI s, tI p, tI q] h (tmF (some (tI (tmKey s p q))) h) := by
  refine tmC.mk (lv := [some (tI s), some (tI p), some (tI q)]) 0 ⟨rfl, by decide +kernel, by decide⟩ rfl rfl ?_
  refine wa_iload_n dX5_keyOf_0 rfl ?_
  refine wa_if_lt 10 dX5_keyOf_1 (by decide) (by first | assumption | exact ⟨by omega, by omega⟩) (fun c_1 => ?_) (fun c_1 => ?_)
  · refine wa_iconst dX5_keyOf_10 ?_
    refine wa_ireturn dX5_keyOf_11 rfl ?_
    refine ⟨?_, rfl⟩
    unfold tmKey
    congr 2
    split <;> first | omega | (split <;> first | omega | (split <;> first | omega | (split <;> first | omega | (split <;> omega))))
  · refine wa_iload_n dX5_keyOf_4 rfl ?_
    refine wa_bipush dX5_keyOf_5 rfl ?_
    refine wa_icmp_le 12 dX5_keyOf_7 (by decide) (by first | assumption | exact ⟨by omega, by omega⟩) (by first | assumption | exact ⟨by omega, by omega⟩) (fun c_7 => ?_) (fun c_7 => ?_)
    · refine wa_iload_n dX5_keyOf_12 rfl ?_
      refine wa_iconst dX5_keyOf_13 ?_
      refine wa_icmp_ge 19 dX5_keyOf_14 (by decide) (by first | assumption | exact ⟨by omega, by omega⟩) (by first | assumption | exact ⟨by omega, by omega⟩) (fun c_14 => ?_) (fun c_14 => ?_)
      · refine wa_iload_n dX5_keyOf_19 rfl ?_
        refine wa_if_lt 29 dX5_keyOf_20 (by decide) (by first | assumption | exact ⟨by omega, by omega⟩) (fun c_20 => ?_) (fun c_20 => ?_)
        · refine wa_iconst dX5_keyOf_29 ?_
          refine wa_ireturn dX5_keyOf_30 rfl ?_
          refine ⟨?_, rfl⟩
          unfold tmKey
          congr 2
          split <;> first | omega | (split <;> first | omega | (split <;> first | omega | (split <;> first | omega | (split <;> omega))))
        · refine wa_iload_n dX5_keyOf_23 rfl ?_
          refine wa_bipush dX5_keyOf_24 rfl ?_
          refine wa_icmp_lt 31 dX5_keyOf_26 (by decide) (by first | assumption | exact ⟨by omega, by omega⟩) (by first | assumption | exact ⟨by omega, by omega⟩) (fun c_26 => ?_) (fun c_26 => ?_)
          · refine wa_iload_n dX5_keyOf_31 rfl ?_
            refine wa_bipush dX5_keyOf_32 rfl ?_
            refine wa_icmp_ge 48 dX5_keyOf_34 (by decide) (by first | assumption | exact ⟨by omega, by omega⟩) (by first | assumption | exact ⟨by omega, by omega⟩) (fun c_34 => ?_) (fun c_34 => ?_)
            · refine wa_iload_n dX5_keyOf_48 rfl ?_
              refine wa_if_lt 58 dX5_keyOf_49 (by decide) (by first | assumption | exact ⟨by omega, by omega⟩) (fun c_49 => ?_) (fun c_49 => ?_)
              · refine wa_iconst dX5_keyOf_58 ?_
                refine wa_ireturn dX5_keyOf_59 rfl ?_
                refine ⟨?_, rfl⟩
                unfold tmKey
                congr 2
                split <;> first | omega | (split <;> first | omega | (split <;> first | omega | (split <;> first | omega | (split <;> omega))))
              · refine wa_iload_n dX5_keyOf_52 rfl ?_
                refine wa_bipush dX5_keyOf_53 rfl ?_
                refine wa_icmp_lt 60 dX5_keyOf_55 (by decide) (by first | assumption | exact ⟨by omega, by omega⟩) (by first | assumption | exact ⟨by omega, by omega⟩) (fun c_55 => ?_) (fun c_55 => ?_)
                · refine wa_iconst dX5_keyOf_60 ?_
                  refine wa_iconst dX5_keyOf_61 ?_
                  refine wa_iload_n dX5_keyOf_62 rfl ?_
                  refine wa_iadd dX5_keyOf_63 ?_
                  refine wa_bipush dX5_keyOf_64 rfl ?_
                  refine wa_imul dX5_keyOf_66 ?_
                  refine wa_iadd dX5_keyOf_67 ?_
                  refine wa_iload_n dX5_keyOf_68 rfl ?_
                  refine wa_iadd dX5_keyOf_69 ?_
                  refine wa_ireturn dX5_keyOf_70 rfl ?_
                  refine ⟨?_, rfl⟩
                  unfold tmKey
                  congr 2
                  split <;> first | omega | (split <;> first | omega | (split <;> first | omega | (split <;> first | omega | (split <;> omega))))
                · refine wa_iconst dX5_keyOf_58 ?_
                  refine wa_ireturn dX5_keyOf_59 rfl ?_
                  refine ⟨?_, rfl⟩
                  unfold tmKey
                  congr 2
                  split <;> first | omega | (split <;> first | omega | (split <;> first | omega | (split <;> first | omega | (split <;> omega))))
            · refine wa_iconst dX5_keyOf_37 ?_
              refine wa_iload_n dX5_keyOf_38 rfl ?_
              refine wa_iconst dX5_keyOf_39 ?_
              refine wa_isub dX5_keyOf_40 ?_
              refine wa_bipush dX5_keyOf_41 rfl ?_
              refine wa_imul dX5_keyOf_43 ?_
              refine wa_iadd dX5_keyOf_44 ?_
              refine wa_iload_n dX5_keyOf_45 rfl ?_
              refine wa_iadd dX5_keyOf_46 ?_
              refine wa_ireturn dX5_keyOf_47 rfl ?_
              refine ⟨?_, rfl⟩
              unfold tmKey
              congr 2
              split <;> first | omega | (split <;> first | omega | (split <;> first | omega | (split <;> first | omega | (split <;> omega))))
          · refine wa_iconst dX5_keyOf_29 ?_
            refine wa_ireturn dX5_keyOf_30 rfl ?_
            refine ⟨?_, rfl⟩
            unfold tmKey
            congr 2
            split <;> first | omega | (split <;> first | omega | (split <;> first | omega | (split <;> first | omega | (split <;> omega))))
      · refine wa_iload_n dX5_keyOf_17 rfl ?_
        refine wa_ireturn dX5_keyOf_18 rfl ?_
        refine ⟨?_, rfl⟩
        unfold tmKey
        congr 2
        split <;> first | omega | (split <;> first | omega | (split <;> first | omega | (split <;> first | omega | (split <;> omega))))
    · refine wa_iconst dX5_keyOf_10 ?_
      refine wa_ireturn dX5_keyOf_11 rfl ?_
      refine ⟨?_, rfl⟩
      unfold tmKey
      congr 2
      split <;> first | omega | (split <;> first | omega | (split <;> first | omega | (split <;> first | omega | (split <;> omega))))
/-- the table's book: which places are told -/
def PlOK (I : Nat → Nat → Int) (us : Nat) : Prop := us ≤ 50 ∧ I 133 2 = (us : Int) ∧ (∀ i, i < us → 0 ≤ I 135 i ∧ I 135 i < 2604) ∧ ∀ K, K < 2604 → I 134 K ≠ -1 → ∃ i, i < us ∧ I 135 i = (K : Int)
/-- the first k of the keys told are emptied -/
def tmEmp (us : Nat → Int) (k : Nat) (pl : Nat → Int) : Nat → Int := fun K => if ∃ i, i < k ∧ us i = (K : Int) then -1 else pl K
theorem tmEmp_0 (us : Nat → Int) (pl : Nat → Int) : tmEmp us 0 pl = pl := by funext K; unfold tmEmp; rw [if_neg (by rintro ⟨i, h, -⟩; omega)]
theorem tmEmp_s (us : Nat → Int) (k : Nat) (pl : Nat → Int) (hu : 0 ≤ us k) : va_up (tmEmp us k pl) (us k).toNat (-1) = tmEmp us (k + 1) pl := by
  funext K
  unfold tmEmp
  by_cases h : K = (us k).toNat
  · subst h; rw [vup_s, if_pos ⟨k, by omega, by omega⟩]
  · rw [vup_n h]
    by_cases h2 : ∃ i, i < k ∧ us i = (K : Int)
    · obtain ⟨i, a, b⟩ := h2; rw [if_pos ⟨i, a, b⟩, if_pos ⟨i, by omega, b⟩]
    · rw [if_neg h2, if_neg]
      rintro ⟨i, a, b⟩
      by_cases e : i = k
      · subst e; omega
      · exact h2 ⟨i, by omega, b⟩
set_option maxRecDepth 20000 in
theorem emptyPlaces_loop (hL : LX S) {us : Nat} (hp : PlOK I us) : ∀ (j i : Nat), i + j = us → tmW kX5_emptyPlaces 1 0 0 2 [some (tR 133), some (tI i)] [] (S, va_up I 134 (tmEmp (I 135) i (I 134)), L) (tmF none (S, va_up (va_up I 134 (tmEmp (I 135) us (I 134))) 133 (va_up (I 133) 2 0), L)) := by
  intro j
  have o133 := oX133 hL
  have r133_0 := rX133_0 hL
  have r133_1 := rX133_1 hL
  have r133_3 := rX133_3 hL
  have r133_5 := rX133_5 hL
  have r133_6 := rX133_6 hL
  have r133_7 := rX133_7 hL
  have o134 := oX134 hL
  have o135 := oX135 hL
  obtain ⟨h1, h2, h3, h4⟩ := hp
  induction j with
  | zero =>
    intro i hi
    obtain rfl : i = us := by omega
    refine wt_ir (fun hI => ?_)
    refine wa_iload_n dX5_emptyPlaces_2 rfl ?_
    refine wa_aload_n dX5_emptyPlaces_3 rfl ?_
    refine wt_getI dX5_emptyPlaces_4 FX5_18 (by assumption) ?_
    try simp only [vup_if, Nat.reduceEqDiff, ↓reduceIte, h2]
    refine wa_icmp_ge 28 dX5_emptyPlaces_7 (by decide) (by exact ⟨by omega, by omega⟩) (by exact ⟨by omega, by omega⟩) (fun c_7 => ?_) (fun c_7 => ?_)
    · refine wa_aload_n dX5_emptyPlaces_28 rfl ?_
      refine wa_iconst dX5_emptyPlaces_29 ?_
      refine wt_putI dX5_emptyPlaces_30 FX5_18 (WX5_2 _ _) (by assumption) (by exact ⟨by omega, by omega⟩) ?_
      refine wa_return dX5_emptyPlaces_33 rfl ?_
      exact ⟨rfl, by simp only [vup_if, Nat.reduceEqDiff, ↓reduceIte]⟩
    · omega
  | succ j ih =>
    intro i hi
    refine wt_ir (fun hI => ?_)
    have h5 := h3 i (by omega)
    have ih' := ih (i + 1) (by omega)
    refine wa_iload_n dX5_emptyPlaces_2 rfl ?_
    refine wa_aload_n dX5_emptyPlaces_3 rfl ?_
    refine wt_getI dX5_emptyPlaces_4 FX5_18 (by assumption) ?_
    try simp only [vup_if, Nat.reduceEqDiff, ↓reduceIte, h2]
    refine wa_icmp_ge 28 dX5_emptyPlaces_7 (by decide) (by exact ⟨by omega, by omega⟩) (by exact ⟨by omega, by omega⟩) (fun c_7 => ?_) (fun c_7 => ?_)
    · omega
    · refine wa_aload_n dX5_emptyPlaces_10 rfl ?_
      refine wt_getR dX5_emptyPlaces_11 FX5_11 (by assumption) (by assumption) ?_
      refine wa_aload_n dX5_emptyPlaces_14 rfl ?_
      refine wt_getR dX5_emptyPlaces_15 FX5_15 (by assumption) (by assumption) ?_
      refine wa_iload_n dX5_emptyPlaces_18 rfl ?_
      refine wt_iald _ dX5_emptyPlaces_19 (by assumption) rfl (by omega) ?_
      try simp only [vup_if, Nat.reduceEqDiff, ↓reduceIte, h2]
      refine wa_iconst dX5_emptyPlaces_20 ?_
      refine wt_iast (I 135 i).toNat dX5_emptyPlaces_21 (by assumption) (by omega) (by omega) (by exact ⟨by omega, by omega⟩) ?_
      refine wa_iinc dX5_emptyPlaces_22 rfl (by decide) ?_
      refine wa_goto 2 dX5_emptyPlaces_25 (by decide) ?_
      rw [vup_vup, vup_s, tmEmp_s _ _ _ h5.1]
      exact ih'
set_option maxRecDepth 20000 in
theorem c_emptyPlaces (hL : LX S) {us : Nat} (hp : PlOK I us) : tmC yX5_emptyPlaces kX5_emptyPlaces 1 0 0 [tR 133] (S, I, L) (fun r h' => r = none ∧ ∃ I', h' = (S, I', L) ∧ PlOK I' 0 ∧ (∀ K, K < 2604 → I' 134 K = -1) ∧ ∀ a, a ≠ 133 → a ≠ 134 → I' a = I a) := by
  refine tmC.mk (lv := [some (tR 133), none]) 1 ⟨rfl, by decide +kernel, by decide⟩ rfl rfl ?_
  refine wa_iconst dX5_emptyPlaces_0 ?_
  refine wa_istore_n dX5_emptyPlaces_1 (by decide) ?_
  have lp := emptyPlaces_loop (L := L) hL hp us 0 (by omega)
  rw [tmEmp_0, vup_self] at lp
  refine lp.wk ?_
  rintro r h' ⟨rfl, rfl⟩
  have hall : ∀ K, K < 2604 → tmEmp (I 135) us (I 134) K = -1 := by
    intro K hK
    unfold tmEmp
    by_cases h : I 134 K = -1
    · split; rfl; exact h
    · obtain ⟨i, a, b⟩ := hp.2.2.2 K hK h
      rw [if_pos ⟨i, a, b⟩]
  refine ⟨rfl, _, rfl, ⟨by omega, by simp only [vup_s]; rfl, fun i hi => by omega, fun K hK h => ?_⟩, fun K hK => ?_, fun a h1 h2 => ?_⟩
  · exfalso; apply h; rw [vup_n (by decide), vup_s]; exact hall K hK
  · rw [vup_n (by decide), vup_s]; exact hall K hK
  · rw [vup_n h1, vup_n h2]
set_option maxRecDepth 20000 in
theorem c_tellPlace (hL : LX S) {us : Nat} (hu : I 133 2 = (us : Int)) (hus : us < 50) (key : Nat) (hk : key < 2604) (c : Int) (hc : inR c) : tmC yX5_tellPlace kX5_tellPlace 1 0 0 [tR 133, tI key, tI c] (S, I, L) (tmF none (S, va_up (va_up (va_up I 134 (va_up (I 134) key c)) 135 (va_up (I 135) us key)) 133 (va_up (I 133) 2 (us + 1 : Nat)), L)) := by
  refine tmC.mk (lv := [some (tR 133), some (tI key), some (tI c)]) 0 ⟨rfl, by decide +kernel, by decide⟩ rfl rfl ?_
  refine wt_ir (fun hI => ?_)
  have o133 := oX133 hL
  have r133_0 := rX133_0 hL
  have r133_1 := rX133_1 hL
  have r133_3 := rX133_3 hL
  have r133_5 := rX133_5 hL
  have r133_6 := rX133_6 hL
  have r133_7 := rX133_7 hL
  have o134 := oX134 hL
  have o135 := oX135 hL
  refine wa_aload_n dX5_tellPlace_0 rfl ?_
  refine wt_getI dX5_tellPlace_1 FX5_18 (by assumption) ?_
  try simp only [vup_if, Nat.reduceEqDiff, ↓reduceIte, hu]
  refine wa_bipush dX5_tellPlace_4 rfl ?_
  refine wa_icmp_ge 36 dX5_tellPlace_6 (by decide) (by first | assumption | exact ⟨by omega, by omega⟩) (by first | assumption | exact ⟨by omega, by omega⟩) (fun c_6 => ?_) (fun c_6 => ?_)
  · omega
  · refine wa_aload_n dX5_tellPlace_9 rfl ?_
    refine wt_getR dX5_tellPlace_10 FX5_11 (by assumption) (by assumption) ?_
    refine wa_iload_n dX5_tellPlace_13 rfl ?_
    refine wa_iload_n dX5_tellPlace_14 rfl ?_
    refine wt_iast _ dX5_tellPlace_15 (by assumption) rfl (by omega) (by first | assumption | exact ⟨by omega, by omega⟩) ?_
    refine wa_aload_n dX5_tellPlace_16 rfl ?_
    refine wt_getR dX5_tellPlace_17 FX5_15 (by assumption) (by assumption) ?_
    refine wa_aload_n dX5_tellPlace_20 rfl ?_
    refine wt_getI dX5_tellPlace_21 FX5_18 (by assumption) ?_
    try simp only [vup_if, Nat.reduceEqDiff, ↓reduceIte, hu]
    refine wa_iload_n dX5_tellPlace_24 rfl ?_
    refine wt_iast us dX5_tellPlace_25 (by assumption) rfl (by omega) (by first | assumption | exact ⟨by omega, by omega⟩) ?_
    refine wa_aload_n dX5_tellPlace_26 rfl ?_
    refine wa_dup dX5_tellPlace_27 rfl ?_
    refine wt_getI dX5_tellPlace_28 FX5_18 (by assumption) ?_
    try simp only [vup_if, Nat.reduceEqDiff, ↓reduceIte, hu]
    refine wa_iconst dX5_tellPlace_31 ?_
    refine wa_iadd dX5_tellPlace_32 ?_
    refine wt_putI dX5_tellPlace_33 FX5_18 (WX5_2 _ _) (by assumption) (by first | assumption | exact ⟨by omega, by omega⟩) ?_
    refine wa_return dX5_tellPlace_36 rfl ?_
    exact ⟨rfl, by simp only [vup_if, Nat.reduceEqDiff, ↓reduceIte]; rfl⟩
end S18
