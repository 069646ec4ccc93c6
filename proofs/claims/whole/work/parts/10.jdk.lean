/-! ===== 10: Math.min, Math.max, Arrays.fill, Integer.bitCount ===== -/
theorem MmaxC : Cond.code Lib.Math.max.name Lib.Math.max.code 2 (some .int) ∈ tmT := tmT_a1 92 (by decide +kernel) rfl
theorem MmaxS : Cond.static Lib.Math.max.name ∈ tmT := tmT_a1 91 (by decide +kernel) rfl
theorem MminC : Cond.code Lib.Math.min.name Lib.Math.min.code 2 (some .int) ∈ tmT := tmT_a2 192 (by decide +kernel) rfl
theorem MminS : Cond.static Lib.Math.min.name ∈ tmT := tmT_a2 191 (by decide +kernel) rfl
theorem MI : Cond.initialized "java/lang/Math" ∈ tmT := tmT_a1 5 (by decide +kernel) rfl
section J10
variable {M : tmMS} {d bc bs pc : Nat} {lv : List (Option tmV)} {st : List tmV} {h : tmH} {Q : Option tmV → tmH → Prop}
theorem wa_max {idx : Nat} {a b : Int} (hd : decode M.2.1 pc = .ok (.invokestatic idx, 3)) (hl : Cond.methodLink M.1 idx yJ9_max_7cf53 ∈ tmT) (hdp : 1 ≤ d) (hcat : (st.map fun v => if tmIsL (some v) then 2 else 1).sum ≤ 8) (ha : inR a) (hb : inR b) (kk : tmW M d bc bs (pc + 3) lv (tI (if a < b then b else a) :: st) h Q) : tmW M d bc bs pc lv (tI b :: tI a :: st) h Q := by
  intro p l e R s m args below meth c H locs cells slots b0 G ls X hc hs hl' hR hS
  have hts := X.2.2.2.2.2.2.1
  have hd1 := X.2.2.2.2.2.2.2.2.1
  have hd2 := X.2.2.2.2.2.2.2.2.2.1
  have hcat' := tm_cat (b0 := b0) hcat
  refine va_mmax X.1 X.2.1 (by rw [X.2.2.1]; exact hl'.1.symm) X.2.2.2.2.2.1 (hts _ hl) (hts _ MmaxS) (hts _ MI) (hts _ MmaxC) (by omega) (by omega) (by omega) (by omega) hd ?_
  have k2 := kk p l e R s m args below meth c H locs cells slots b0 G ls X hc hs hl' hR hS
  by_cases hab : a < b
  · rw [if_pos hab] at k2; rw [if_pos ((tm_lt ha hb).mpr hab)]; exact k2
  · rw [if_neg hab] at k2; rw [if_neg (fun z => hab ((tm_lt ha hb).mp z))]; exact k2
theorem wa_min {idx : Nat} {a b : Int} (hd : decode M.2.1 pc = .ok (.invokestatic idx, 3)) (hl : Cond.methodLink M.1 idx yJ9_min_7cf53 ∈ tmT) (hdp : 1 ≤ d) (hcat : (st.map fun v => if tmIsL (some v) then 2 else 1).sum ≤ 8) (ha : inR a) (hb : inR b) (kk : tmW M d bc bs (pc + 3) lv (tI (if b < a then b else a) :: st) h Q) : tmW M d bc bs pc lv (tI b :: tI a :: st) h Q := by
  intro p l e R s m args below meth c H locs cells slots b0 G ls X hc hs hl' hR hS
  have hts := X.2.2.2.2.2.2.1
  have hd1 := X.2.2.2.2.2.2.2.2.1
  have hd2 := X.2.2.2.2.2.2.2.2.2.1
  have hcat' := tm_cat (b0 := b0) hcat
  refine va_mmin X.1 X.2.1 (by rw [X.2.2.1]; exact hl'.1.symm) X.2.2.2.2.2.1 (hts _ hl) (hts _ MminS) (hts _ MI) (hts _ MminC) (by omega) (by omega) (by omega) (by omega) hd ?_
  have k2 := kk p l e R s m args below meth c H locs cells slots b0 G ls X hc hs hl' hR hS
  by_cases hab : b < a
  · rw [if_pos hab] at k2; rw [if_pos ((tm_lt hb ha).mpr hab)]; exact k2
  · rw [if_neg hab] at k2; rw [if_neg (fun z => hab ((tm_lt hb ha).mp z))]; exact k2
end J10
section J10b
variable {S : tmS} {I : Nat → Nat → Int} {L : Nat → Nat → Int64}
/-- a row whose places from 0 to k hold x -/
def tmFill {α : Type} (f : Nat → α) (k : Nat) (x : α) : Nat → α := fun j => if j < k then x else f j
theorem tmFill_0 {α : Type} (f : Nat → α) (x : α) : tmFill f 0 x = f := by funext j; simp [tmFill]
theorem tmFill_s {α : Type} (f : Nat → α) (k : Nat) (x : α) : va_up (tmFill f k x) k x = tmFill f (k + 1) x := by
  funext j
  by_cases h : j = k
  · subst h; simp [tmFill, va_up]
  · by_cases h2 : j < k
    · simp [tmFill, va_up, h, h2, Nat.lt_succ_of_lt h2]
    · simp [tmFill, va_up, h, h2, show ¬ j < k + 1 by omega]
theorem vup_vup {α : Type} (f : Nat → α) (k : Nat) (v w : α) : va_up (va_up f k v) k w = va_up f k w := by funext j; by_cases h : j = k <;> simp [va_up, h]
theorem vup_self {α : Type} (f : Nat → α) (k : Nat) : va_up f k (f k) = f := by funext j; by_cases h : j = k <;> simp [va_up, h]
set_option maxRecDepth 20000 in
theorem fill_loop {i nn : Nat} (ho : tmArr S i 13 nn) (x : Int) (hx : inR x) : ∀ (k j : Nat), j + k = nn → tmW kJ7_fill_53178 1 0 0 5 [some (tR i), some (tI x), some (tI j), some (tI nn)] [] (S, va_up I i (tmFill (I i) j x), L) (tmF none (S, va_up I i (tmFill (I i) nn x), L)) := by
  intro k
  have hb := ho.2.2.2
  induction k with
  | zero =>
    intro j hj
    obtain rfl : j = nn := by omega
    refine wa_iload_n dJ7_fill_53178_5 rfl ?_
    refine wa_iload_n dJ7_fill_53178_6 rfl ?_
    refine wa_icmp_ge 20 dJ7_fill_53178_7 (by decide) (by first | exact hI _ _ | exact ⟨by omega, by omega⟩ | assumption) (by first | exact hI _ _ | exact ⟨by omega, by omega⟩ | assumption) (fun c_7 => ?_) (fun c_7 => ?_)
    · refine wa_return dJ7_fill_53178_20 rfl ?_
      exact ⟨rfl, rfl⟩
    · omega
  | succ k ih =>
    intro j hj
    refine wa_iload_n dJ7_fill_53178_5 rfl ?_
    refine wa_iload_n dJ7_fill_53178_6 rfl ?_
    refine wa_icmp_ge 20 dJ7_fill_53178_7 (by decide) (by first | exact hI _ _ | exact ⟨by omega, by omega⟩ | assumption) (by first | exact hI _ _ | exact ⟨by omega, by omega⟩ | assumption) (fun c_7 => ?_) (fun c_7 => ?_)
    · omega
    · refine wa_aload_n dJ7_fill_53178_10 rfl ?_
      refine wa_iload_n dJ7_fill_53178_11 rfl ?_
      refine wa_iload_n dJ7_fill_53178_12 rfl ?_
      refine wt_iast _ dJ7_fill_53178_13 (by assumption) rfl (by omega) (by first | exact hI _ _ | exact ⟨by omega, by omega⟩ | assumption) ?_
      refine wa_iinc dJ7_fill_53178_14 rfl (by decide) ?_
      refine wa_goto 5 dJ7_fill_53178_17 (by decide) ?_
      rw [vup_vup, vup_s, tmFill_s]
      exact ih (j + 1) (by omega)
set_option maxRecDepth 20000 in
theorem c_fillI {i nn : Nat} (ho : tmArr S i 13 nn) (x : Int) (hx : inR x) : tmC yJ7_fill_53178 kJ7_fill_53178 1 0 0 [tR i, tI x] (S, I, L) (tmF none (S, va_up I i (tmFill (I i) nn x), L)) := by
  refine tmC.mk 2 ⟨rfl, by decide +kernel, by decide⟩ rfl rfl ?_
  refine wa_iconst dJ7_fill_53178_0 ?_
  refine wa_istore_n dJ7_fill_53178_1 (by decide) ?_
  refine wa_aload_n dJ7_fill_53178_2 rfl ?_
  refine wt_alen dJ7_fill_53178_3 (by assumption) (by first | exact Or.inl rfl | exact Or.inr rfl) ?_
  refine wa_istore_n dJ7_fill_53178_4 (by decide) ?_
  have := fill_loop (I := I) (L := L) ho x hx nn 0 (by omega)
  rw [tmFill_0, vup_self] at this
  exact this
end J10b
