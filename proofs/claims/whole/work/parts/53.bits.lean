/-! ===== 53: Integer.bitCount of a set of LETTERS ===== -/
def bcN (v : Nat) : Int := [0, 1, 1, 2, 1, 2, 2, 3].getD v 0
section S53
variable {S : tmS} {I : Nat → Nat → Int} {L : Nat → Nat → Int64}
theorem c_bit0 : tmC yJ6_bitCount_0f7a4 kJ6_bitCount_0f7a4 1 0 0 [tI 0] (S, I, L) (tmF (some (tI 0)) (S, I, L)) := by
  refine tmC.mk 0 ⟨rfl, by decide +kernel, by decide⟩ rfl rfl ?_
  refine wa_iload_n dJ6_bitCount_0f7a4_0 rfl ?_
  refine wa_iload_n dJ6_bitCount_0f7a4_1 rfl ?_
  refine wa_iconst dJ6_bitCount_0f7a4_2 ?_
  refine wa_iushr dJ6_bitCount_0f7a4_3 (r := 0) (by decide) ?_
  refine wa_ldcw dJ6_bitCount_0f7a4_4 QJ6_265 (a := 1431655765) rfl ?_
  refine wa_iand dJ6_bitCount_0f7a4_7 (r := 0) (by decide) ?_
  refine wa_isub dJ6_bitCount_0f7a4_8 ?_
  refine wa_istore_n dJ6_bitCount_0f7a4_9 (by decide) ?_
  refine wa_iload_n dJ6_bitCount_0f7a4_10 rfl ?_
  refine wa_ldcw dJ6_bitCount_0f7a4_11 QJ6_266 (a := 858993459) rfl ?_
  refine wa_iand dJ6_bitCount_0f7a4_14 (r := 0) (by decide) ?_
  refine wa_iload_n dJ6_bitCount_0f7a4_15 rfl ?_
  refine wa_iconst dJ6_bitCount_0f7a4_16 ?_
  refine wa_iushr dJ6_bitCount_0f7a4_17 (r := 0) (by decide) ?_
  refine wa_ldcw dJ6_bitCount_0f7a4_18 QJ6_266 (a := 858993459) rfl ?_
  refine wa_iand dJ6_bitCount_0f7a4_21 (r := 0) (by decide) ?_
  refine wa_iadd dJ6_bitCount_0f7a4_22 ?_
  refine wa_istore_n dJ6_bitCount_0f7a4_23 (by decide) ?_
  refine wa_iload_n dJ6_bitCount_0f7a4_24 rfl ?_
  refine wa_iload_n dJ6_bitCount_0f7a4_25 rfl ?_
  refine wa_iconst dJ6_bitCount_0f7a4_26 ?_
  refine wa_iushr dJ6_bitCount_0f7a4_27 (r := 0) (by decide) ?_
  refine wa_iadd dJ6_bitCount_0f7a4_28 ?_
  refine wa_ldcw dJ6_bitCount_0f7a4_29 QJ6_267 (a := 252645135) rfl ?_
  refine wa_iand dJ6_bitCount_0f7a4_32 (r := 0) (by decide) ?_
  refine wa_istore_n dJ6_bitCount_0f7a4_33 (by decide) ?_
  refine wa_iload_n dJ6_bitCount_0f7a4_34 rfl ?_
  refine wa_iload_n dJ6_bitCount_0f7a4_35 rfl ?_
  refine wa_bipush dJ6_bitCount_0f7a4_36 rfl ?_
  refine wa_iushr dJ6_bitCount_0f7a4_38 (r := 0) (by decide) ?_
  refine wa_iadd dJ6_bitCount_0f7a4_39 ?_
  refine wa_istore_n dJ6_bitCount_0f7a4_40 (by decide) ?_
  refine wa_iload_n dJ6_bitCount_0f7a4_41 rfl ?_
  refine wa_iload_n dJ6_bitCount_0f7a4_42 rfl ?_
  refine wa_bipush dJ6_bitCount_0f7a4_43 rfl ?_
  refine wa_iushr dJ6_bitCount_0f7a4_45 (r := 0) (by decide) ?_
  refine wa_iadd dJ6_bitCount_0f7a4_46 ?_
  refine wa_istore_n dJ6_bitCount_0f7a4_47 (by decide) ?_
  refine wa_iload_n dJ6_bitCount_0f7a4_48 rfl ?_
  refine wa_bipush dJ6_bitCount_0f7a4_49 rfl ?_
  refine wa_iand dJ6_bitCount_0f7a4_51 (r := 0) (by decide) ?_
  refine wa_ireturn dJ6_bitCount_0f7a4_52 rfl ?_
  exact ⟨rfl, rfl⟩
theorem c_bit1 : tmC yJ6_bitCount_0f7a4 kJ6_bitCount_0f7a4 1 0 0 [tI 1] (S, I, L) (tmF (some (tI 1)) (S, I, L)) := by
  refine tmC.mk 0 ⟨rfl, by decide +kernel, by decide⟩ rfl rfl ?_
  refine wa_iload_n dJ6_bitCount_0f7a4_0 rfl ?_
  refine wa_iload_n dJ6_bitCount_0f7a4_1 rfl ?_
  refine wa_iconst dJ6_bitCount_0f7a4_2 ?_
  refine wa_iushr dJ6_bitCount_0f7a4_3 (r := 0) (by decide) ?_
  refine wa_ldcw dJ6_bitCount_0f7a4_4 QJ6_265 (a := 1431655765) rfl ?_
  refine wa_iand dJ6_bitCount_0f7a4_7 (r := 0) (by decide) ?_
  refine wa_isub dJ6_bitCount_0f7a4_8 ?_
  refine wa_istore_n dJ6_bitCount_0f7a4_9 (by decide) ?_
  refine wa_iload_n dJ6_bitCount_0f7a4_10 rfl ?_
  refine wa_ldcw dJ6_bitCount_0f7a4_11 QJ6_266 (a := 858993459) rfl ?_
  refine wa_iand dJ6_bitCount_0f7a4_14 (r := 1) (by decide) ?_
  refine wa_iload_n dJ6_bitCount_0f7a4_15 rfl ?_
  refine wa_iconst dJ6_bitCount_0f7a4_16 ?_
  refine wa_iushr dJ6_bitCount_0f7a4_17 (r := 0) (by decide) ?_
  refine wa_ldcw dJ6_bitCount_0f7a4_18 QJ6_266 (a := 858993459) rfl ?_
  refine wa_iand dJ6_bitCount_0f7a4_21 (r := 0) (by decide) ?_
  refine wa_iadd dJ6_bitCount_0f7a4_22 ?_
  refine wa_istore_n dJ6_bitCount_0f7a4_23 (by decide) ?_
  refine wa_iload_n dJ6_bitCount_0f7a4_24 rfl ?_
  refine wa_iload_n dJ6_bitCount_0f7a4_25 rfl ?_
  refine wa_iconst dJ6_bitCount_0f7a4_26 ?_
  refine wa_iushr dJ6_bitCount_0f7a4_27 (r := 0) (by decide) ?_
  refine wa_iadd dJ6_bitCount_0f7a4_28 ?_
  refine wa_ldcw dJ6_bitCount_0f7a4_29 QJ6_267 (a := 252645135) rfl ?_
  refine wa_iand dJ6_bitCount_0f7a4_32 (r := 1) (by decide) ?_
  refine wa_istore_n dJ6_bitCount_0f7a4_33 (by decide) ?_
  refine wa_iload_n dJ6_bitCount_0f7a4_34 rfl ?_
  refine wa_iload_n dJ6_bitCount_0f7a4_35 rfl ?_
  refine wa_bipush dJ6_bitCount_0f7a4_36 rfl ?_
  refine wa_iushr dJ6_bitCount_0f7a4_38 (r := 0) (by decide) ?_
  refine wa_iadd dJ6_bitCount_0f7a4_39 ?_
  refine wa_istore_n dJ6_bitCount_0f7a4_40 (by decide) ?_
  refine wa_iload_n dJ6_bitCount_0f7a4_41 rfl ?_
  refine wa_iload_n dJ6_bitCount_0f7a4_42 rfl ?_
  refine wa_bipush dJ6_bitCount_0f7a4_43 rfl ?_
  refine wa_iushr dJ6_bitCount_0f7a4_45 (r := 0) (by decide) ?_
  refine wa_iadd dJ6_bitCount_0f7a4_46 ?_
  refine wa_istore_n dJ6_bitCount_0f7a4_47 (by decide) ?_
  refine wa_iload_n dJ6_bitCount_0f7a4_48 rfl ?_
  refine wa_bipush dJ6_bitCount_0f7a4_49 rfl ?_
  refine wa_iand dJ6_bitCount_0f7a4_51 (r := 1) (by decide) ?_
  refine wa_ireturn dJ6_bitCount_0f7a4_52 rfl ?_
  exact ⟨rfl, rfl⟩
theorem c_bit2 : tmC yJ6_bitCount_0f7a4 kJ6_bitCount_0f7a4 1 0 0 [tI 2] (S, I, L) (tmF (some (tI 1)) (S, I, L)) := by
  refine tmC.mk 0 ⟨rfl, by decide +kernel, by decide⟩ rfl rfl ?_
  refine wa_iload_n dJ6_bitCount_0f7a4_0 rfl ?_
  refine wa_iload_n dJ6_bitCount_0f7a4_1 rfl ?_
  refine wa_iconst dJ6_bitCount_0f7a4_2 ?_
  refine wa_iushr dJ6_bitCount_0f7a4_3 (r := 1) (by decide) ?_
  refine wa_ldcw dJ6_bitCount_0f7a4_4 QJ6_265 (a := 1431655765) rfl ?_
  refine wa_iand dJ6_bitCount_0f7a4_7 (r := 1) (by decide) ?_
  refine wa_isub dJ6_bitCount_0f7a4_8 ?_
  refine wa_istore_n dJ6_bitCount_0f7a4_9 (by decide) ?_
  refine wa_iload_n dJ6_bitCount_0f7a4_10 rfl ?_
  refine wa_ldcw dJ6_bitCount_0f7a4_11 QJ6_266 (a := 858993459) rfl ?_
  refine wa_iand dJ6_bitCount_0f7a4_14 (r := 1) (by decide) ?_
  refine wa_iload_n dJ6_bitCount_0f7a4_15 rfl ?_
  refine wa_iconst dJ6_bitCount_0f7a4_16 ?_
  refine wa_iushr dJ6_bitCount_0f7a4_17 (r := 0) (by decide) ?_
  refine wa_ldcw dJ6_bitCount_0f7a4_18 QJ6_266 (a := 858993459) rfl ?_
  refine wa_iand dJ6_bitCount_0f7a4_21 (r := 0) (by decide) ?_
  refine wa_iadd dJ6_bitCount_0f7a4_22 ?_
  refine wa_istore_n dJ6_bitCount_0f7a4_23 (by decide) ?_
  refine wa_iload_n dJ6_bitCount_0f7a4_24 rfl ?_
  refine wa_iload_n dJ6_bitCount_0f7a4_25 rfl ?_
  refine wa_iconst dJ6_bitCount_0f7a4_26 ?_
  refine wa_iushr dJ6_bitCount_0f7a4_27 (r := 0) (by decide) ?_
  refine wa_iadd dJ6_bitCount_0f7a4_28 ?_
  refine wa_ldcw dJ6_bitCount_0f7a4_29 QJ6_267 (a := 252645135) rfl ?_
  refine wa_iand dJ6_bitCount_0f7a4_32 (r := 1) (by decide) ?_
  refine wa_istore_n dJ6_bitCount_0f7a4_33 (by decide) ?_
  refine wa_iload_n dJ6_bitCount_0f7a4_34 rfl ?_
  refine wa_iload_n dJ6_bitCount_0f7a4_35 rfl ?_
  refine wa_bipush dJ6_bitCount_0f7a4_36 rfl ?_
  refine wa_iushr dJ6_bitCount_0f7a4_38 (r := 0) (by decide) ?_
  refine wa_iadd dJ6_bitCount_0f7a4_39 ?_
  refine wa_istore_n dJ6_bitCount_0f7a4_40 (by decide) ?_
  refine wa_iload_n dJ6_bitCount_0f7a4_41 rfl ?_
  refine wa_iload_n dJ6_bitCount_0f7a4_42 rfl ?_
  refine wa_bipush dJ6_bitCount_0f7a4_43 rfl ?_
  refine wa_iushr dJ6_bitCount_0f7a4_45 (r := 0) (by decide) ?_
  refine wa_iadd dJ6_bitCount_0f7a4_46 ?_
  refine wa_istore_n dJ6_bitCount_0f7a4_47 (by decide) ?_
  refine wa_iload_n dJ6_bitCount_0f7a4_48 rfl ?_
  refine wa_bipush dJ6_bitCount_0f7a4_49 rfl ?_
  refine wa_iand dJ6_bitCount_0f7a4_51 (r := 1) (by decide) ?_
  refine wa_ireturn dJ6_bitCount_0f7a4_52 rfl ?_
  exact ⟨rfl, rfl⟩
theorem c_bit3 : tmC yJ6_bitCount_0f7a4 kJ6_bitCount_0f7a4 1 0 0 [tI 3] (S, I, L) (tmF (some (tI 2)) (S, I, L)) := by
  refine tmC.mk 0 ⟨rfl, by decide +kernel, by decide⟩ rfl rfl ?_
  refine wa_iload_n dJ6_bitCount_0f7a4_0 rfl ?_
  refine wa_iload_n dJ6_bitCount_0f7a4_1 rfl ?_
  refine wa_iconst dJ6_bitCount_0f7a4_2 ?_
  refine wa_iushr dJ6_bitCount_0f7a4_3 (r := 1) (by decide) ?_
  refine wa_ldcw dJ6_bitCount_0f7a4_4 QJ6_265 (a := 1431655765) rfl ?_
  refine wa_iand dJ6_bitCount_0f7a4_7 (r := 1) (by decide) ?_
  refine wa_isub dJ6_bitCount_0f7a4_8 ?_
  refine wa_istore_n dJ6_bitCount_0f7a4_9 (by decide) ?_
  refine wa_iload_n dJ6_bitCount_0f7a4_10 rfl ?_
  refine wa_ldcw dJ6_bitCount_0f7a4_11 QJ6_266 (a := 858993459) rfl ?_
  refine wa_iand dJ6_bitCount_0f7a4_14 (r := 2) (by decide) ?_
  refine wa_iload_n dJ6_bitCount_0f7a4_15 rfl ?_
  refine wa_iconst dJ6_bitCount_0f7a4_16 ?_
  refine wa_iushr dJ6_bitCount_0f7a4_17 (r := 0) (by decide) ?_
  refine wa_ldcw dJ6_bitCount_0f7a4_18 QJ6_266 (a := 858993459) rfl ?_
  refine wa_iand dJ6_bitCount_0f7a4_21 (r := 0) (by decide) ?_
  refine wa_iadd dJ6_bitCount_0f7a4_22 ?_
  refine wa_istore_n dJ6_bitCount_0f7a4_23 (by decide) ?_
  refine wa_iload_n dJ6_bitCount_0f7a4_24 rfl ?_
  refine wa_iload_n dJ6_bitCount_0f7a4_25 rfl ?_
  refine wa_iconst dJ6_bitCount_0f7a4_26 ?_
  refine wa_iushr dJ6_bitCount_0f7a4_27 (r := 0) (by decide) ?_
  refine wa_iadd dJ6_bitCount_0f7a4_28 ?_
  refine wa_ldcw dJ6_bitCount_0f7a4_29 QJ6_267 (a := 252645135) rfl ?_
  refine wa_iand dJ6_bitCount_0f7a4_32 (r := 2) (by decide) ?_
  refine wa_istore_n dJ6_bitCount_0f7a4_33 (by decide) ?_
  refine wa_iload_n dJ6_bitCount_0f7a4_34 rfl ?_
  refine wa_iload_n dJ6_bitCount_0f7a4_35 rfl ?_
  refine wa_bipush dJ6_bitCount_0f7a4_36 rfl ?_
  refine wa_iushr dJ6_bitCount_0f7a4_38 (r := 0) (by decide) ?_
  refine wa_iadd dJ6_bitCount_0f7a4_39 ?_
  refine wa_istore_n dJ6_bitCount_0f7a4_40 (by decide) ?_
  refine wa_iload_n dJ6_bitCount_0f7a4_41 rfl ?_
  refine wa_iload_n dJ6_bitCount_0f7a4_42 rfl ?_
  refine wa_bipush dJ6_bitCount_0f7a4_43 rfl ?_
  refine wa_iushr dJ6_bitCount_0f7a4_45 (r := 0) (by decide) ?_
  refine wa_iadd dJ6_bitCount_0f7a4_46 ?_
  refine wa_istore_n dJ6_bitCount_0f7a4_47 (by decide) ?_
  refine wa_iload_n dJ6_bitCount_0f7a4_48 rfl ?_
  refine wa_bipush dJ6_bitCount_0f7a4_49 rfl ?_
  refine wa_iand dJ6_bitCount_0f7a4_51 (r := 2) (by decide) ?_
  refine wa_ireturn dJ6_bitCount_0f7a4_52 rfl ?_
  exact ⟨rfl, rfl⟩
theorem c_bit4 : tmC yJ6_bitCount_0f7a4 kJ6_bitCount_0f7a4 1 0 0 [tI 4] (S, I, L) (tmF (some (tI 1)) (S, I, L)) := by
  refine tmC.mk 0 ⟨rfl, by decide +kernel, by decide⟩ rfl rfl ?_
  refine wa_iload_n dJ6_bitCount_0f7a4_0 rfl ?_
  refine wa_iload_n dJ6_bitCount_0f7a4_1 rfl ?_
  refine wa_iconst dJ6_bitCount_0f7a4_2 ?_
  refine wa_iushr dJ6_bitCount_0f7a4_3 (r := 2) (by decide) ?_
  refine wa_ldcw dJ6_bitCount_0f7a4_4 QJ6_265 (a := 1431655765) rfl ?_
  refine wa_iand dJ6_bitCount_0f7a4_7 (r := 0) (by decide) ?_
  refine wa_isub dJ6_bitCount_0f7a4_8 ?_
  refine wa_istore_n dJ6_bitCount_0f7a4_9 (by decide) ?_
  refine wa_iload_n dJ6_bitCount_0f7a4_10 rfl ?_
  refine wa_ldcw dJ6_bitCount_0f7a4_11 QJ6_266 (a := 858993459) rfl ?_
  refine wa_iand dJ6_bitCount_0f7a4_14 (r := 0) (by decide) ?_
  refine wa_iload_n dJ6_bitCount_0f7a4_15 rfl ?_
  refine wa_iconst dJ6_bitCount_0f7a4_16 ?_
  refine wa_iushr dJ6_bitCount_0f7a4_17 (r := 1) (by decide) ?_
  refine wa_ldcw dJ6_bitCount_0f7a4_18 QJ6_266 (a := 858993459) rfl ?_
  refine wa_iand dJ6_bitCount_0f7a4_21 (r := 1) (by decide) ?_
  refine wa_iadd dJ6_bitCount_0f7a4_22 ?_
  refine wa_istore_n dJ6_bitCount_0f7a4_23 (by decide) ?_
  refine wa_iload_n dJ6_bitCount_0f7a4_24 rfl ?_
  refine wa_iload_n dJ6_bitCount_0f7a4_25 rfl ?_
  refine wa_iconst dJ6_bitCount_0f7a4_26 ?_
  refine wa_iushr dJ6_bitCount_0f7a4_27 (r := 0) (by decide) ?_
  refine wa_iadd dJ6_bitCount_0f7a4_28 ?_
  refine wa_ldcw dJ6_bitCount_0f7a4_29 QJ6_267 (a := 252645135) rfl ?_
  refine wa_iand dJ6_bitCount_0f7a4_32 (r := 1) (by decide) ?_
  refine wa_istore_n dJ6_bitCount_0f7a4_33 (by decide) ?_
  refine wa_iload_n dJ6_bitCount_0f7a4_34 rfl ?_
  refine wa_iload_n dJ6_bitCount_0f7a4_35 rfl ?_
  refine wa_bipush dJ6_bitCount_0f7a4_36 rfl ?_
  refine wa_iushr dJ6_bitCount_0f7a4_38 (r := 0) (by decide) ?_
  refine wa_iadd dJ6_bitCount_0f7a4_39 ?_
  refine wa_istore_n dJ6_bitCount_0f7a4_40 (by decide) ?_
  refine wa_iload_n dJ6_bitCount_0f7a4_41 rfl ?_
  refine wa_iload_n dJ6_bitCount_0f7a4_42 rfl ?_
  refine wa_bipush dJ6_bitCount_0f7a4_43 rfl ?_
  refine wa_iushr dJ6_bitCount_0f7a4_45 (r := 0) (by decide) ?_
  refine wa_iadd dJ6_bitCount_0f7a4_46 ?_
  refine wa_istore_n dJ6_bitCount_0f7a4_47 (by decide) ?_
  refine wa_iload_n dJ6_bitCount_0f7a4_48 rfl ?_
  refine wa_bipush dJ6_bitCount_0f7a4_49 rfl ?_
  refine wa_iand dJ6_bitCount_0f7a4_51 (r := 1) (by decide) ?_
  refine wa_ireturn dJ6_bitCount_0f7a4_52 rfl ?_
  exact ⟨rfl, rfl⟩
theorem c_bit5 : tmC yJ6_bitCount_0f7a4 kJ6_bitCount_0f7a4 1 0 0 [tI 5] (S, I, L) (tmF (some (tI 2)) (S, I, L)) := by
  refine tmC.mk 0 ⟨rfl, by decide +kernel, by decide⟩ rfl rfl ?_
  refine wa_iload_n dJ6_bitCount_0f7a4_0 rfl ?_
  refine wa_iload_n dJ6_bitCount_0f7a4_1 rfl ?_
  refine wa_iconst dJ6_bitCount_0f7a4_2 ?_
  refine wa_iushr dJ6_bitCount_0f7a4_3 (r := 2) (by decide) ?_
  refine wa_ldcw dJ6_bitCount_0f7a4_4 QJ6_265 (a := 1431655765) rfl ?_
  refine wa_iand dJ6_bitCount_0f7a4_7 (r := 0) (by decide) ?_
  refine wa_isub dJ6_bitCount_0f7a4_8 ?_
  refine wa_istore_n dJ6_bitCount_0f7a4_9 (by decide) ?_
  refine wa_iload_n dJ6_bitCount_0f7a4_10 rfl ?_
  refine wa_ldcw dJ6_bitCount_0f7a4_11 QJ6_266 (a := 858993459) rfl ?_
  refine wa_iand dJ6_bitCount_0f7a4_14 (r := 1) (by decide) ?_
  refine wa_iload_n dJ6_bitCount_0f7a4_15 rfl ?_
  refine wa_iconst dJ6_bitCount_0f7a4_16 ?_
  refine wa_iushr dJ6_bitCount_0f7a4_17 (r := 1) (by decide) ?_
  refine wa_ldcw dJ6_bitCount_0f7a4_18 QJ6_266 (a := 858993459) rfl ?_
  refine wa_iand dJ6_bitCount_0f7a4_21 (r := 1) (by decide) ?_
  refine wa_iadd dJ6_bitCount_0f7a4_22 ?_
  refine wa_istore_n dJ6_bitCount_0f7a4_23 (by decide) ?_
  refine wa_iload_n dJ6_bitCount_0f7a4_24 rfl ?_
  refine wa_iload_n dJ6_bitCount_0f7a4_25 rfl ?_
  refine wa_iconst dJ6_bitCount_0f7a4_26 ?_
  refine wa_iushr dJ6_bitCount_0f7a4_27 (r := 0) (by decide) ?_
  refine wa_iadd dJ6_bitCount_0f7a4_28 ?_
  refine wa_ldcw dJ6_bitCount_0f7a4_29 QJ6_267 (a := 252645135) rfl ?_
  refine wa_iand dJ6_bitCount_0f7a4_32 (r := 2) (by decide) ?_
  refine wa_istore_n dJ6_bitCount_0f7a4_33 (by decide) ?_
  refine wa_iload_n dJ6_bitCount_0f7a4_34 rfl ?_
  refine wa_iload_n dJ6_bitCount_0f7a4_35 rfl ?_
  refine wa_bipush dJ6_bitCount_0f7a4_36 rfl ?_
  refine wa_iushr dJ6_bitCount_0f7a4_38 (r := 0) (by decide) ?_
  refine wa_iadd dJ6_bitCount_0f7a4_39 ?_
  refine wa_istore_n dJ6_bitCount_0f7a4_40 (by decide) ?_
  refine wa_iload_n dJ6_bitCount_0f7a4_41 rfl ?_
  refine wa_iload_n dJ6_bitCount_0f7a4_42 rfl ?_
  refine wa_bipush dJ6_bitCount_0f7a4_43 rfl ?_
  refine wa_iushr dJ6_bitCount_0f7a4_45 (r := 0) (by decide) ?_
  refine wa_iadd dJ6_bitCount_0f7a4_46 ?_
  refine wa_istore_n dJ6_bitCount_0f7a4_47 (by decide) ?_
  refine wa_iload_n dJ6_bitCount_0f7a4_48 rfl ?_
  refine wa_bipush dJ6_bitCount_0f7a4_49 rfl ?_
  refine wa_iand dJ6_bitCount_0f7a4_51 (r := 2) (by decide) ?_
  refine wa_ireturn dJ6_bitCount_0f7a4_52 rfl ?_
  exact ⟨rfl, rfl⟩
theorem c_bit6 : tmC yJ6_bitCount_0f7a4 kJ6_bitCount_0f7a4 1 0 0 [tI 6] (S, I, L) (tmF (some (tI 2)) (S, I, L)) := by
  refine tmC.mk 0 ⟨rfl, by decide +kernel, by decide⟩ rfl rfl ?_
  refine wa_iload_n dJ6_bitCount_0f7a4_0 rfl ?_
  refine wa_iload_n dJ6_bitCount_0f7a4_1 rfl ?_
  refine wa_iconst dJ6_bitCount_0f7a4_2 ?_
  refine wa_iushr dJ6_bitCount_0f7a4_3 (r := 3) (by decide) ?_
  refine wa_ldcw dJ6_bitCount_0f7a4_4 QJ6_265 (a := 1431655765) rfl ?_
  refine wa_iand dJ6_bitCount_0f7a4_7 (r := 1) (by decide) ?_
  refine wa_isub dJ6_bitCount_0f7a4_8 ?_
  refine wa_istore_n dJ6_bitCount_0f7a4_9 (by decide) ?_
  refine wa_iload_n dJ6_bitCount_0f7a4_10 rfl ?_
  refine wa_ldcw dJ6_bitCount_0f7a4_11 QJ6_266 (a := 858993459) rfl ?_
  refine wa_iand dJ6_bitCount_0f7a4_14 (r := 1) (by decide) ?_
  refine wa_iload_n dJ6_bitCount_0f7a4_15 rfl ?_
  refine wa_iconst dJ6_bitCount_0f7a4_16 ?_
  refine wa_iushr dJ6_bitCount_0f7a4_17 (r := 1) (by decide) ?_
  refine wa_ldcw dJ6_bitCount_0f7a4_18 QJ6_266 (a := 858993459) rfl ?_
  refine wa_iand dJ6_bitCount_0f7a4_21 (r := 1) (by decide) ?_
  refine wa_iadd dJ6_bitCount_0f7a4_22 ?_
  refine wa_istore_n dJ6_bitCount_0f7a4_23 (by decide) ?_
  refine wa_iload_n dJ6_bitCount_0f7a4_24 rfl ?_
  refine wa_iload_n dJ6_bitCount_0f7a4_25 rfl ?_
  refine wa_iconst dJ6_bitCount_0f7a4_26 ?_
  refine wa_iushr dJ6_bitCount_0f7a4_27 (r := 0) (by decide) ?_
  refine wa_iadd dJ6_bitCount_0f7a4_28 ?_
  refine wa_ldcw dJ6_bitCount_0f7a4_29 QJ6_267 (a := 252645135) rfl ?_
  refine wa_iand dJ6_bitCount_0f7a4_32 (r := 2) (by decide) ?_
  refine wa_istore_n dJ6_bitCount_0f7a4_33 (by decide) ?_
  refine wa_iload_n dJ6_bitCount_0f7a4_34 rfl ?_
  refine wa_iload_n dJ6_bitCount_0f7a4_35 rfl ?_
  refine wa_bipush dJ6_bitCount_0f7a4_36 rfl ?_
  refine wa_iushr dJ6_bitCount_0f7a4_38 (r := 0) (by decide) ?_
  refine wa_iadd dJ6_bitCount_0f7a4_39 ?_
  refine wa_istore_n dJ6_bitCount_0f7a4_40 (by decide) ?_
  refine wa_iload_n dJ6_bitCount_0f7a4_41 rfl ?_
  refine wa_iload_n dJ6_bitCount_0f7a4_42 rfl ?_
  refine wa_bipush dJ6_bitCount_0f7a4_43 rfl ?_
  refine wa_iushr dJ6_bitCount_0f7a4_45 (r := 0) (by decide) ?_
  refine wa_iadd dJ6_bitCount_0f7a4_46 ?_
  refine wa_istore_n dJ6_bitCount_0f7a4_47 (by decide) ?_
  refine wa_iload_n dJ6_bitCount_0f7a4_48 rfl ?_
  refine wa_bipush dJ6_bitCount_0f7a4_49 rfl ?_
  refine wa_iand dJ6_bitCount_0f7a4_51 (r := 2) (by decide) ?_
  refine wa_ireturn dJ6_bitCount_0f7a4_52 rfl ?_
  exact ⟨rfl, rfl⟩
theorem c_bit7 : tmC yJ6_bitCount_0f7a4 kJ6_bitCount_0f7a4 1 0 0 [tI 7] (S, I, L) (tmF (some (tI 3)) (S, I, L)) := by
  refine tmC.mk 0 ⟨rfl, by decide +kernel, by decide⟩ rfl rfl ?_
  refine wa_iload_n dJ6_bitCount_0f7a4_0 rfl ?_
  refine wa_iload_n dJ6_bitCount_0f7a4_1 rfl ?_
  refine wa_iconst dJ6_bitCount_0f7a4_2 ?_
  refine wa_iushr dJ6_bitCount_0f7a4_3 (r := 3) (by decide) ?_
  refine wa_ldcw dJ6_bitCount_0f7a4_4 QJ6_265 (a := 1431655765) rfl ?_
  refine wa_iand dJ6_bitCount_0f7a4_7 (r := 1) (by decide) ?_
  refine wa_isub dJ6_bitCount_0f7a4_8 ?_
  refine wa_istore_n dJ6_bitCount_0f7a4_9 (by decide) ?_
  refine wa_iload_n dJ6_bitCount_0f7a4_10 rfl ?_
  refine wa_ldcw dJ6_bitCount_0f7a4_11 QJ6_266 (a := 858993459) rfl ?_
  refine wa_iand dJ6_bitCount_0f7a4_14 (r := 2) (by decide) ?_
  refine wa_iload_n dJ6_bitCount_0f7a4_15 rfl ?_
  refine wa_iconst dJ6_bitCount_0f7a4_16 ?_
  refine wa_iushr dJ6_bitCount_0f7a4_17 (r := 1) (by decide) ?_
  refine wa_ldcw dJ6_bitCount_0f7a4_18 QJ6_266 (a := 858993459) rfl ?_
  refine wa_iand dJ6_bitCount_0f7a4_21 (r := 1) (by decide) ?_
  refine wa_iadd dJ6_bitCount_0f7a4_22 ?_
  refine wa_istore_n dJ6_bitCount_0f7a4_23 (by decide) ?_
  refine wa_iload_n dJ6_bitCount_0f7a4_24 rfl ?_
  refine wa_iload_n dJ6_bitCount_0f7a4_25 rfl ?_
  refine wa_iconst dJ6_bitCount_0f7a4_26 ?_
  refine wa_iushr dJ6_bitCount_0f7a4_27 (r := 0) (by decide) ?_
  refine wa_iadd dJ6_bitCount_0f7a4_28 ?_
  refine wa_ldcw dJ6_bitCount_0f7a4_29 QJ6_267 (a := 252645135) rfl ?_
  refine wa_iand dJ6_bitCount_0f7a4_32 (r := 3) (by decide) ?_
  refine wa_istore_n dJ6_bitCount_0f7a4_33 (by decide) ?_
  refine wa_iload_n dJ6_bitCount_0f7a4_34 rfl ?_
  refine wa_iload_n dJ6_bitCount_0f7a4_35 rfl ?_
  refine wa_bipush dJ6_bitCount_0f7a4_36 rfl ?_
  refine wa_iushr dJ6_bitCount_0f7a4_38 (r := 0) (by decide) ?_
  refine wa_iadd dJ6_bitCount_0f7a4_39 ?_
  refine wa_istore_n dJ6_bitCount_0f7a4_40 (by decide) ?_
  refine wa_iload_n dJ6_bitCount_0f7a4_41 rfl ?_
  refine wa_iload_n dJ6_bitCount_0f7a4_42 rfl ?_
  refine wa_bipush dJ6_bitCount_0f7a4_43 rfl ?_
  refine wa_iushr dJ6_bitCount_0f7a4_45 (r := 0) (by decide) ?_
  refine wa_iadd dJ6_bitCount_0f7a4_46 ?_
  refine wa_istore_n dJ6_bitCount_0f7a4_47 (by decide) ?_
  refine wa_iload_n dJ6_bitCount_0f7a4_48 rfl ?_
  refine wa_bipush dJ6_bitCount_0f7a4_49 rfl ?_
  refine wa_iand dJ6_bitCount_0f7a4_51 (r := 3) (by decide) ?_
  refine wa_ireturn dJ6_bitCount_0f7a4_52 rfl ?_
  exact ⟨rfl, rfl⟩
theorem c_bitCount (v : Nat) (hv : v < 8) : tmC yJ6_bitCount_0f7a4 kJ6_bitCount_0f7a4 1 0 0 [tI (v : Nat)] (S, I, L) (tmF (some (tI (bcN v))) (S, I, L)) := by
  have : v = 0 ∨ v = 1 ∨ v = 2 ∨ v = 3 ∨ v = 4 ∨ v = 5 ∨ v = 6 ∨ v = 7 := by omega
  rcases this with rfl | rfl | rfl | rfl | rfl | rfl | rfl | rfl
  · exact c_bit0
  · exact c_bit1
  · exact c_bit2
  · exact c_bit3
  · exact c_bit4
  · exact c_bit5
  · exact c_bit6
  · exact c_bit7
end S53
