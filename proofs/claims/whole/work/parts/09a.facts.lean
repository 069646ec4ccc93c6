/-! ===== 09: what is fixed of classes, fields, methods, calls (by program) ===== -/
theorem tmT_ps {ws : List Cond} (ps : List Nat) (hp : ws = ps.filterMap (fun i => tables_1[i]?)) (hg : ws.all goodWord = true) : ∀ w ∈ ws, w ∈ tmT := by
  intro w hw
  have h1 := List.all_eq_true.mp hg w hw
  rw [hp] at hw
  obtain ⟨i, -, hi⟩ := List.mem_filterMap.mp hw
  exact tmT_in (List.mem_of_getElem? hi) h1
theorem tmT_a1 {w : Cond} (i : Nat) (h : tables_1_1[i]? = some w) (hg : goodWord w = true) : w ∈ tmT := tmT_in (by unfold tables_1; simp only [List.mem_append]; exact Or.inl (List.mem_of_getElem? h)) hg
theorem tmT_a2 {w : Cond} (i : Nat) (h : tables_1_2[i]? = some w) (hg : goodWord w = true) : w ∈ tmT := tmT_in (by unfold tables_1; simp only [List.mem_append]; exact Or.inr (Or.inl (List.mem_of_getElem? h))) hg
theorem tmT_a3 {w : Cond} (i : Nat) (h : tables_1_3[i]? = some w) (hg : goodWord w = true) : w ∈ tmT := tmT_in (by unfold tables_1; simp only [List.mem_append]; exact Or.inr (Or.inr (Or.inl (List.mem_of_getElem? h)))) hg
theorem tmT_a4 {w : Cond} (i : Nat) (h : tables_1_4[i]? = some w) (hg : goodWord w = true) : w ∈ tmT := tmT_in (by unfold tables_1; simp only [List.mem_append]; exact Or.inr (Or.inr (Or.inr (Or.inl (List.mem_of_getElem? h))))) hg
theorem tmT_a5 {w : Cond} (i : Nat) (h : tables_1_5[i]? = some w) (hg : goodWord w = true) : w ∈ tmT := tmT_in (by unfold tables_1; simp only [List.mem_append]; exact Or.inr (Or.inr (Or.inr (Or.inr (Or.inl (List.mem_of_getElem? h)))))) hg
theorem tmT_a6 {w : Cond} (i : Nat) (h : tables_1_6[i]? = some w) (hg : goodWord w = true) : w ∈ tmT := tmT_in (by unfold tables_1; simp only [List.mem_append]; exact Or.inr (Or.inr (Or.inr (Or.inr (Or.inr (List.mem_of_getElem? h)))))) hg
def tmTys (ci N : Nat) (t0 : Nat → FieldType) : Bool := (List.range N).all fun k => match (tmft ci)[k]? with
  | some ty => tmTy ty (t0 k)
  | none => false
theorem tmTys_ok {ci N : Nat} {t0 : Nat → FieldType} (h : tmTys ci N t0 = true) : ∀ k, k < N → ∃ ty, (tmft ci)[k]? = some ty ∧ tmTy ty (t0 k) = true := by
  intro k hk
  have := List.all_eq_true.mp h k (List.mem_range.mpr hk)
  cases e : (tmft ci)[k]? with
  | none => rw [e] at this; cases this
  | some ty => rw [e] at this; exact ⟨ty, rfl, this⟩
theorem CL0 : tmCl 0 RX0 TX0 3 tyX0 := ⟨rfl, tmT_ps [213, 215, 217] (by decide +kernel) (by decide +kernel), tyX0_ok, nmX0, tmTys_ok (by decide +kernel), rfl, by decide⟩
theorem CL1 : tmCl 1 RX1 TX1 2 tyX1 := ⟨rfl, tmT_ps [238, 240] (by decide +kernel) (by decide +kernel), tyX1_ok, nmX1, tmTys_ok (by decide +kernel), rfl, by decide⟩
theorem CL2 : tmCl 2 RX2 TX2 6 tyX2 := ⟨rfl, tmT_ps [114, 116, 118, 120, 122, 124] (by decide +kernel) (by decide +kernel), tyX2_ok, nmX2, tmTys_ok (by decide +kernel), rfl, by decide⟩
theorem CL3 : tmCl 3 RX3 TX3 8 tyX3 := ⟨rfl, tmT_ps [282, 284, 286, 288, 290, 292, 294, 296] (by decide +kernel) (by decide +kernel), tyX3_ok, nmX3, tmTys_ok (by decide +kernel), rfl, by decide⟩
theorem CL4 : tmCl 4 RX4 TX4 7 tyX4 := ⟨rfl, tmT_ps [250, 252, 254, 256, 258, 260, 262] (by decide +kernel) (by decide +kernel), tyX4_ok, nmX4, tmTys_ok (by decide +kernel), rfl, by decide⟩
theorem CL5 : tmCl 5 RX5 TX5 8 tyX5 := ⟨rfl, tmT_ps [185, 187, 189, 191, 193, 195, 197, 199] (by decide +kernel) (by decide +kernel), tyX5_ok, nmX5, tmTys_ok (by decide +kernel), rfl, by decide⟩
theorem CL6 : tmCl 6 RX6 TX6 4 tyX6 := ⟨rfl, tmT_ps [138, 140, 142, 144] (by decide +kernel) (by decide +kernel), tyX6_ok, nmX6, tmTys_ok (by decide +kernel), rfl, by decide⟩
theorem CL7 : tmCl 7 RX7 TX7 3 tyX7 := ⟨rfl, tmT_ps [160, 162, 164] (by decide +kernel) (by decide +kernel), tyX7_ok, nmX7, tmTys_ok (by decide +kernel), rfl, by decide⟩
theorem CL8 : tmCl 8 RX8 TX8 6 tyX8 := ⟨rfl, tmT_ps [69, 71, 73, 75, 77, 79] (by decide +kernel) (by decide +kernel), tyX8_ok, nmX8, tmTys_ok (by decide +kernel), rfl, by decide⟩
theorem CL9 : tmCl 9 RX9 TX9 9 tyX9 := ⟨rfl, tmT_ps [318, 320, 322, 324, 326, 328, 330, 332, 334] (by decide +kernel) (by decide +kernel), tyX9_ok, nmX9, tmTys_ok (by decide +kernel), rfl, by decide⟩
theorem CL10 : tmCl 10 RX10 TX10 4 tyX10 := ⟨rfl, tmT_ps [348, 350, 352, 354] (by decide +kernel) (by decide +kernel), tyX10_ok, nmX10, tmTys_ok (by decide +kernel), rfl, by decide⟩
theorem CL11 : tmCl 11 RX11 TX11 11 tyX11 := ⟨rfl, tmT_ps [368, 370, 372, 374, 376, 378, 380, 382, 384, 386, 388] (by decide +kernel) (by decide +kernel), tyX11_ok, nmX11, tmTys_ok (by decide +kernel), rfl, by decide⟩
theorem CL12 : tmCl 12 RX12 TX12 33 tyX12 := ⟨rfl, tmT_ps [948, 950, 952, 954, 956, 958, 960, 962, 964, 966, 968, 970, 972, 974, 976, 978, 980, 982, 984, 986, 988, 990, 992, 994, 996, 998, 1000, 1002, 1004, 1006, 1008, 1010, 1012] (by decide +kernel) (by decide +kernel), tyX12_ok, nmX12, tmTys_ok (by decide +kernel), rfl, by decide⟩
theorem FX8_9 : tmFL RX8 9 8 0 0 := ⟨_, _, _, _, CL8, by decide, tmT_a1 42 (by decide +kernel) rfl, by decide⟩
theorem FX0_22 : tmFL RX0 22 8 0 0 := ⟨_, _, _, _, CL8, by decide, tmT_a1 43 (by decide +kernel) rfl, by decide⟩
theorem FX11_102 : tmFL RX11 102 8 0 0 := ⟨_, _, _, _, CL8, by decide, tmT_a1 44 (by decide +kernel) rfl, by decide⟩
theorem FX6_39 : tmFL RX6 39 8 0 0 := ⟨_, _, _, _, CL8, by decide, tmT_a1 45 (by decide +kernel) rfl, by decide⟩
theorem FX5_52 : tmFL RX5 52 8 0 0 := ⟨_, _, _, _, CL8, by decide, tmT_a1 46 (by decide +kernel) rfl, by decide⟩
theorem FX4_87 : tmFL RX4 87 8 0 0 := ⟨_, _, _, _, CL8, by decide, tmT_a1 47 (by decide +kernel) rfl, by decide⟩
theorem FX3_107 : tmFL RX3 107 8 0 0 := ⟨_, _, _, _, CL8, by decide, tmT_a1 48 (by decide +kernel) rfl, by decide⟩
theorem FX8_15 : tmFL RX8 15 8 1 1 := ⟨_, _, _, _, CL8, by decide, tmT_a1 49 (by decide +kernel) rfl, by decide⟩
theorem FX10_39 : tmFL RX10 39 8 1 1 := ⟨_, _, _, _, CL8, by decide, tmT_a1 50 (by decide +kernel) rfl, by decide⟩
theorem FX5_57 : tmFL RX5 57 8 1 1 := ⟨_, _, _, _, CL8, by decide, tmT_a1 51 (by decide +kernel) rfl, by decide⟩
theorem FX11_130 : tmFL RX11 130 8 1 1 := ⟨_, _, _, _, CL8, by decide, tmT_a1 52 (by decide +kernel) rfl, by decide⟩
theorem FX8_19 : tmFL RX8 19 8 2 1 := ⟨_, _, _, _, CL8, by decide, tmT_a1 53 (by decide +kernel) rfl, by decide⟩
theorem FX10_53 : tmFL RX10 53 8 2 1 := ⟨_, _, _, _, CL8, by decide, tmT_a1 54 (by decide +kernel) rfl, by decide⟩
theorem FX5_60 : tmFL RX5 60 8 2 1 := ⟨_, _, _, _, CL8, by decide, tmT_a1 55 (by decide +kernel) rfl, by decide⟩
theorem FX11_133 : tmFL RX11 133 8 2 1 := ⟨_, _, _, _, CL8, by decide, tmT_a1 56 (by decide +kernel) rfl, by decide⟩
theorem FX8_22 : tmFL RX8 22 8 3 1 := ⟨_, _, _, _, CL8, by decide, tmT_a1 57 (by decide +kernel) rfl, by decide⟩
theorem FX10_50 : tmFL RX10 50 8 3 1 := ⟨_, _, _, _, CL8, by decide, tmT_a1 58 (by decide +kernel) rfl, by decide⟩
theorem FX5_67 : tmFL RX5 67 8 3 1 := ⟨_, _, _, _, CL8, by decide, tmT_a1 59 (by decide +kernel) rfl, by decide⟩
theorem FX11_136 : tmFL RX11 136 8 3 1 := ⟨_, _, _, _, CL8, by decide, tmT_a1 60 (by decide +kernel) rfl, by decide⟩
theorem FX8_25 : tmFL RX8 25 8 4 1 := ⟨_, _, _, _, CL8, by decide, tmT_a1 61 (by decide +kernel) rfl, by decide⟩
theorem FX11_113 : tmFL RX11 113 8 4 1 := ⟨_, _, _, _, CL8, by decide, tmT_a1 62 (by decide +kernel) rfl, by decide⟩
theorem FX4_93 : tmFL RX4 93 8 4 1 := ⟨_, _, _, _, CL8, by decide, tmT_a1 63 (by decide +kernel) rfl, by decide⟩
theorem FX9_114 : tmFL RX9 114 8 4 1 := ⟨_, _, _, _, CL8, by decide, tmT_a1 64 (by decide +kernel) rfl, by decide⟩
theorem FX8_28 : tmFL RX8 28 8 5 1 := ⟨_, _, _, _, CL8, by decide, tmT_a1 65 (by decide +kernel) rfl, by decide⟩
theorem FX4_90 : tmFL RX4 90 8 5 1 := ⟨_, _, _, _, CL8, by decide, tmT_a1 66 (by decide +kernel) rfl, by decide⟩
theorem FX5_74 : tmFL RX5 74 8 5 1 := ⟨_, _, _, _, CL8, by decide, tmT_a1 67 (by decide +kernel) rfl, by decide⟩
theorem FX11_139 : tmFL RX11 139 8 5 1 := ⟨_, _, _, _, CL8, by decide, tmT_a1 68 (by decide +kernel) rfl, by decide⟩
theorem FX2_9 : tmFL RX2 9 2 0 0 := ⟨_, _, _, _, CL2, by decide, tmT_a1 93 (by decide +kernel) rfl, by decide⟩
theorem FX0_28 : tmFL RX0 28 2 0 0 := ⟨_, _, _, _, CL2, by decide, tmT_a1 94 (by decide +kernel) rfl, by decide⟩
theorem FX9_63 : tmFL RX9 63 2 0 0 := ⟨_, _, _, _, CL2, by decide, tmT_a1 95 (by decide +kernel) rfl, by decide⟩
theorem FX3_144 : tmFL RX3 144 2 0 0 := ⟨_, _, _, _, CL2, by decide, tmT_a1 96 (by decide +kernel) rfl, by decide⟩
theorem FX11_182 : tmFL RX11 182 2 0 0 := ⟨_, _, _, _, CL2, by decide, tmT_a1 97 (by decide +kernel) rfl, by decide⟩
theorem FX2_15 : tmFL RX2 15 2 1 0 := ⟨_, _, _, _, CL2, by decide, tmT_a1 98 (by decide +kernel) rfl, by decide⟩
theorem FX4_68 : tmFL RX4 68 2 1 0 := ⟨_, _, _, _, CL2, by decide, tmT_a1 99 (by decide +kernel) rfl, by decide⟩
theorem FX9_66 : tmFL RX9 66 2 1 0 := ⟨_, _, _, _, CL2, by decide, tmT_a1 100 (by decide +kernel) rfl, by decide⟩
theorem FX3_139 : tmFL RX3 139 2 1 0 := ⟨_, _, _, _, CL2, by decide, tmT_a1 101 (by decide +kernel) rfl, by decide⟩
theorem FX11_165 : tmFL RX11 165 2 1 0 := ⟨_, _, _, _, CL2, by decide, tmT_a1 102 (by decide +kernel) rfl, by decide⟩
theorem FX2_24 : tmFL RX2 24 2 2 1 := ⟨_, _, _, _, CL2, by decide, tmT_a1 103 (by decide +kernel) rfl, by decide⟩
theorem FX0_35 : tmFL RX0 35 2 2 1 := ⟨_, _, _, _, CL2, by decide, tmT_a1 104 (by decide +kernel) rfl, by decide⟩
theorem FX4_122 : tmFL RX4 122 2 2 1 := ⟨_, _, _, _, CL2, by decide, tmT_a1 105 (by decide +kernel) rfl, by decide⟩
theorem FX2_28 : tmFL RX2 28 2 3 1 := ⟨_, _, _, _, CL2, by decide, tmT_a1 106 (by decide +kernel) rfl, by decide⟩
theorem FX0_38 : tmFL RX0 38 2 3 1 := ⟨_, _, _, _, CL2, by decide, tmT_a1 107 (by decide +kernel) rfl, by decide⟩
theorem FX4_115 : tmFL RX4 115 2 3 1 := ⟨_, _, _, _, CL2, by decide, tmT_a1 108 (by decide +kernel) rfl, by decide⟩
theorem FX2_31 : tmFL RX2 31 2 4 1 := ⟨_, _, _, _, CL2, by decide, tmT_a1 109 (by decide +kernel) rfl, by decide⟩
theorem FX0_45 : tmFL RX0 45 2 4 1 := ⟨_, _, _, _, CL2, by decide, tmT_a1 110 (by decide +kernel) rfl, by decide⟩
theorem FX4_125 : tmFL RX4 125 2 4 1 := ⟨_, _, _, _, CL2, by decide, tmT_a1 111 (by decide +kernel) rfl, by decide⟩
theorem FX2_34 : tmFL RX2 34 2 5 1 := ⟨_, _, _, _, CL2, by decide, tmT_a1 112 (by decide +kernel) rfl, by decide⟩
theorem FX4_147 : tmFL RX4 147 2 5 1 := ⟨_, _, _, _, CL2, by decide, tmT_a1 113 (by decide +kernel) rfl, by decide⟩
theorem FX6_12 : tmFL RX6 12 6 0 1 := ⟨_, _, _, _, CL6, by decide, tmT_a1 127 (by decide +kernel) rfl, by decide⟩
theorem FX11_32 : tmFL RX11 32 6 0 1 := ⟨_, _, _, _, CL6, by decide, tmT_a1 128 (by decide +kernel) rfl, by decide⟩
theorem FX4_48 : tmFL RX4 48 6 0 1 := ⟨_, _, _, _, CL6, by decide, tmT_a1 129 (by decide +kernel) rfl, by decide⟩
theorem FX3_103 : tmFL RX3 103 6 0 1 := ⟨_, _, _, _, CL6, by decide, tmT_a1 130 (by decide +kernel) rfl, by decide⟩
theorem FX9_101 : tmFL RX9 101 6 0 1 := ⟨_, _, _, _, CL6, by decide, tmT_a1 131 (by decide +kernel) rfl, by decide⟩
theorem FX6_20 : tmFL RX6 20 6 1 1 := ⟨_, _, _, _, CL6, by decide, tmT_a1 132 (by decide +kernel) rfl, by decide⟩
theorem FX6_24 : tmFL RX6 24 6 2 0 := ⟨_, _, _, _, CL6, by decide, tmT_a1 133 (by decide +kernel) rfl, by decide⟩
theorem FX3_71 : tmFL RX3 71 6 2 0 := ⟨_, _, _, _, CL6, by decide, tmT_a1 134 (by decide +kernel) rfl, by decide⟩
theorem FX9_82 : tmFL RX9 82 6 2 0 := ⟨_, _, _, _, CL6, by decide, tmT_a1 135 (by decide +kernel) rfl, by decide⟩
theorem FX11_203 : tmFL RX11 203 6 2 0 := ⟨_, _, _, _, CL6, by decide, tmT_a1 136 (by decide +kernel) rfl, by decide⟩
theorem FX6_31 : tmFL RX6 31 6 3 1 := ⟨_, _, _, _, CL6, by decide, tmT_a1 137 (by decide +kernel) rfl, by decide⟩
theorem FX7_13 : tmFL RX7 13 7 0 1 := ⟨_, _, _, _, CL7, by decide, tmT_a1 156 (by decide +kernel) rfl, by decide⟩
theorem FX7_17 : tmFL RX7 17 7 1 0 := ⟨_, _, _, _, CL7, by decide, tmT_a1 157 (by decide +kernel) rfl, by decide⟩
theorem FX7_21 : tmFL RX7 21 7 2 0 := ⟨_, _, _, _, CL7, by decide, tmT_a1 158 (by decide +kernel) rfl, by decide⟩
theorem FX11_239 : tmFL RX11 239 7 2 0 := ⟨_, _, _, _, CL7, by decide, tmT_a1 159 (by decide +kernel) rfl, by decide⟩
theorem FX5_11 : tmFL RX5 11 5 0 1 := ⟨_, _, _, _, CL5, by decide, tmT_a1 176 (by decide +kernel) rfl, by decide⟩
theorem FX4_157 : tmFL RX4 157 5 0 1 := ⟨_, _, _, _, CL5, by decide, tmT_a1 177 (by decide +kernel) rfl, by decide⟩
theorem FX5_15 : tmFL RX5 15 5 1 1 := ⟨_, _, _, _, CL5, by decide, tmT_a1 178 (by decide +kernel) rfl, by decide⟩
theorem FX5_18 : tmFL RX5 18 5 2 0 := ⟨_, _, _, _, CL5, by decide, tmT_a1 179 (by decide +kernel) rfl, by decide⟩
theorem FX5_22 : tmFL RX5 22 5 3 1 := ⟨_, _, _, _, CL5, by decide, tmT_a1 180 (by decide +kernel) rfl, by decide⟩
theorem FX5_26 : tmFL RX5 26 5 4 2 := ⟨_, _, _, _, CL5, by decide, tmT_a1 181 (by decide +kernel) rfl, by decide⟩
theorem FX5_30 : tmFL RX5 30 5 5 1 := ⟨_, _, _, _, CL5, by decide, tmT_a1 182 (by decide +kernel) rfl, by decide⟩
theorem FX5_33 : tmFL RX5 33 5 6 1 := ⟨_, _, _, _, CL5, by decide, tmT_a1 183 (by decide +kernel) rfl, by decide⟩
theorem FX5_36 : tmFL RX5 36 5 7 1 := ⟨_, _, _, _, CL5, by decide, tmT_a1 184 (by decide +kernel) rfl, by decide⟩
theorem FX0_18 : tmFL RX0 18 0 0 1 := ⟨_, _, _, _, CL0, by decide, tmT_a1 209 (by decide +kernel) rfl, by decide⟩
theorem FX0_9 : tmFL RX0 9 0 1 1 := ⟨_, _, _, _, CL0, by decide, tmT_a1 210 (by decide +kernel) rfl, by decide⟩
theorem FX3_127 : tmFL RX3 127 0 1 1 := ⟨_, _, _, _, CL0, by decide, tmT_a1 211 (by decide +kernel) rfl, by decide⟩
theorem FX0_15 : tmFL RX0 15 0 2 1 := ⟨_, _, _, _, CL0, by decide, tmT_a1 212 (by decide +kernel) rfl, by decide⟩
theorem FX1_21 : tmFL RX1 21 1 0 1 := ⟨_, _, _, _, CL1, by decide, tmT_a1 233 (by decide +kernel) rfl, by decide⟩
theorem FX1_9 : tmFL RX1 9 1 1 0 := ⟨_, _, _, _, CL1, by decide, tmT_a1 234 (by decide +kernel) rfl, by decide⟩
theorem FX3_58 : tmFL RX3 58 1 1 0 := ⟨_, _, _, _, CL1, by decide, tmT_a1 235 (by decide +kernel) rfl, by decide⟩
theorem FX4_42 : tmFL RX4 42 1 1 0 := ⟨_, _, _, _, CL1, by decide, tmT_a1 236 (by decide +kernel) rfl, by decide⟩
theorem FX11_187 : tmFL RX11 187 1 1 0 := ⟨_, _, _, _, CL1, by decide, tmT_a1 237 (by decide +kernel) rfl, by decide⟩
theorem FX4_34 : tmFL RX4 34 4 0 1 := ⟨_, _, _, _, CL4, by decide, tmT_a2 3 (by decide +kernel) rfl, by decide⟩
theorem FX4_38 : tmFL RX4 38 4 1 1 := ⟨_, _, _, _, CL4, by decide, tmT_a2 4 (by decide +kernel) rfl, by decide⟩
theorem FX4_14 : tmFL RX4 14 4 2 1 := ⟨_, _, _, _, CL4, by decide, tmT_a2 5 (by decide +kernel) rfl, by decide⟩
theorem FX4_20 : tmFL RX4 20 4 3 0 := ⟨_, _, _, _, CL4, by decide, tmT_a2 6 (by decide +kernel) rfl, by decide⟩
theorem FX4_24 : tmFL RX4 24 4 4 1 := ⟨_, _, _, _, CL4, by decide, tmT_a2 7 (by decide +kernel) rfl, by decide⟩
theorem FX4_28 : tmFL RX4 28 4 5 1 := ⟨_, _, _, _, CL4, by decide, tmT_a2 8 (by decide +kernel) rfl, by decide⟩
theorem FX4_31 : tmFL RX4 31 4 6 1 := ⟨_, _, _, _, CL4, by decide, tmT_a2 9 (by decide +kernel) rfl, by decide⟩
theorem FX3_30 : tmFL RX3 30 3 0 1 := ⟨_, _, _, _, CL3, by decide, tmT_a2 33 (by decide +kernel) rfl, by decide⟩
theorem FX3_34 : tmFL RX3 34 3 1 1 := ⟨_, _, _, _, CL3, by decide, tmT_a2 34 (by decide +kernel) rfl, by decide⟩
theorem FX3_38 : tmFL RX3 38 3 2 1 := ⟨_, _, _, _, CL3, by decide, tmT_a2 35 (by decide +kernel) rfl, by decide⟩
theorem FX3_42 : tmFL RX3 42 3 3 1 := ⟨_, _, _, _, CL3, by decide, tmT_a2 36 (by decide +kernel) rfl, by decide⟩
theorem FX3_16 : tmFL RX3 16 3 4 1 := ⟨_, _, _, _, CL3, by decide, tmT_a2 37 (by decide +kernel) rfl, by decide⟩
theorem FX3_20 : tmFL RX3 20 3 5 1 := ⟨_, _, _, _, CL3, by decide, tmT_a2 38 (by decide +kernel) rfl, by decide⟩
theorem FX3_24 : tmFL RX3 24 3 6 1 := ⟨_, _, _, _, CL3, by decide, tmT_a2 39 (by decide +kernel) rfl, by decide⟩
theorem FX3_27 : tmFL RX3 27 3 7 1 := ⟨_, _, _, _, CL3, by decide, tmT_a2 40 (by decide +kernel) rfl, by decide⟩
theorem FX11_209 : tmFL RX11 209 3 7 1 := ⟨_, _, _, _, CL3, by decide, tmT_a2 41 (by decide +kernel) rfl, by decide⟩
theorem FX9_9 : tmFL RX9 9 9 0 1 := ⟨_, _, _, _, CL9, by decide, tmT_a2 67 (by decide +kernel) rfl, by decide⟩
theorem FX11_218 : tmFL RX11 218 9 0 1 := ⟨_, _, _, _, CL9, by decide, tmT_a2 68 (by decide +kernel) rfl, by decide⟩
theorem FX9_15 : tmFL RX9 15 9 1 0 := ⟨_, _, _, _, CL9, by decide, tmT_a2 69 (by decide +kernel) rfl, by decide⟩
theorem FX11_215 : tmFL RX11 215 9 1 0 := ⟨_, _, _, _, CL9, by decide, tmT_a2 70 (by decide +kernel) rfl, by decide⟩
theorem FX9_40 : tmFL RX9 40 9 2 1 := ⟨_, _, _, _, CL9, by decide, tmT_a2 71 (by decide +kernel) rfl, by decide⟩
theorem FX9_44 : tmFL RX9 44 9 3 1 := ⟨_, _, _, _, CL9, by decide, tmT_a2 72 (by decide +kernel) rfl, by decide⟩
theorem FX9_24 : tmFL RX9 24 9 4 1 := ⟨_, _, _, _, CL9, by decide, tmT_a2 73 (by decide +kernel) rfl, by decide⟩
theorem FX9_28 : tmFL RX9 28 9 5 1 := ⟨_, _, _, _, CL9, by decide, tmT_a2 74 (by decide +kernel) rfl, by decide⟩
theorem FX9_31 : tmFL RX9 31 9 6 1 := ⟨_, _, _, _, CL9, by decide, tmT_a2 75 (by decide +kernel) rfl, by decide⟩
theorem FX9_34 : tmFL RX9 34 9 7 0 := ⟨_, _, _, _, CL9, by decide, tmT_a2 76 (by decide +kernel) rfl, by decide⟩
theorem FX9_37 : tmFL RX9 37 9 8 0 := ⟨_, _, _, _, CL9, by decide, tmT_a2 77 (by decide +kernel) rfl, by decide⟩
theorem FX10_9 : tmFL RX10 9 10 0 1 := ⟨_, _, _, _, CL10, by decide, tmT_a2 103 (by decide +kernel) rfl, by decide⟩
theorem FX11_236 : tmFL RX11 236 10 0 1 := ⟨_, _, _, _, CL10, by decide, tmT_a2 104 (by decide +kernel) rfl, by decide⟩
theorem FX10_15 : tmFL RX10 15 10 1 1 := ⟨_, _, _, _, CL10, by decide, tmT_a2 105 (by decide +kernel) rfl, by decide⟩
theorem FX10_18 : tmFL RX10 18 10 2 0 := ⟨_, _, _, _, CL10, by decide, tmT_a2 106 (by decide +kernel) rfl, by decide⟩
theorem FX10_22 : tmFL RX10 22 10 3 0 := ⟨_, _, _, _, CL10, by decide, tmT_a2 107 (by decide +kernel) rfl, by decide⟩
theorem FX11_10 : tmFL RX11 10 11 0 1 := ⟨_, _, _, _, CL11, by decide, tmT_a2 117 (by decide +kernel) rfl, by decide⟩
theorem FX11_19 : tmFL RX11 19 11 1 1 := ⟨_, _, _, _, CL11, by decide, tmT_a2 118 (by decide +kernel) rfl, by decide⟩
theorem FX11_26 : tmFL RX11 26 11 2 1 := ⟨_, _, _, _, CL11, by decide, tmT_a2 119 (by decide +kernel) rfl, by decide⟩
theorem FX11_39 : tmFL RX11 39 11 3 1 := ⟨_, _, _, _, CL11, by decide, tmT_a2 120 (by decide +kernel) rfl, by decide⟩
theorem FX11_48 : tmFL RX11 48 11 4 1 := ⟨_, _, _, _, CL11, by decide, tmT_a2 121 (by decide +kernel) rfl, by decide⟩
theorem FX11_57 : tmFL RX11 57 11 5 1 := ⟨_, _, _, _, CL11, by decide, tmT_a2 122 (by decide +kernel) rfl, by decide⟩
theorem FX11_66 : tmFL RX11 66 11 6 1 := ⟨_, _, _, _, CL11, by decide, tmT_a2 123 (by decide +kernel) rfl, by decide⟩
theorem FX11_73 : tmFL RX11 73 11 7 1 := ⟨_, _, _, _, CL11, by decide, tmT_a2 124 (by decide +kernel) rfl, by decide⟩
theorem FX11_77 : tmFL RX11 77 11 8 1 := ⟨_, _, _, _, CL11, by decide, tmT_a2 125 (by decide +kernel) rfl, by decide⟩
theorem FX11_81 : tmFL RX11 81 11 9 0 := ⟨_, _, _, _, CL11, by decide, tmT_a2 126 (by decide +kernel) rfl, by decide⟩
theorem FX11_85 : tmFL RX11 85 11 10 0 := ⟨_, _, _, _, CL11, by decide, tmT_a2 127 (by decide +kernel) rfl, by decide⟩
theorem FX12_7 : tmFL RX12 7 12 0 1 := ⟨_, _, _, _, CL12, by decide, tmT_a4 195 (by decide +kernel) rfl, by decide⟩
theorem FX12_13 : tmFL RX12 13 12 1 1 := ⟨_, _, _, _, CL12, by decide, tmT_a4 196 (by decide +kernel) rfl, by decide⟩
theorem FX12_83 : tmFL RX12 83 12 2 0 := ⟨_, _, _, _, CL12, by decide, tmT_a4 197 (by decide +kernel) rfl, by decide⟩
theorem FX12_16 : tmFL RX12 16 12 3 1 := ⟨_, _, _, _, CL12, by decide, tmT_a4 198 (by decide +kernel) rfl, by decide⟩
theorem FX12_19 : tmFL RX12 19 12 4 1 := ⟨_, _, _, _, CL12, by decide, tmT_a4 199 (by decide +kernel) rfl, by decide⟩
theorem FX12_22 : tmFL RX12 22 12 5 1 := ⟨_, _, _, _, CL12, by decide, tmT_a4 200 (by decide +kernel) rfl, by decide⟩
theorem FX12_25 : tmFL RX12 25 12 6 1 := ⟨_, _, _, _, CL12, by decide, tmT_a4 201 (by decide +kernel) rfl, by decide⟩
theorem FX12_28 : tmFL RX12 28 12 7 1 := ⟨_, _, _, _, CL12, by decide, tmT_a4 202 (by decide +kernel) rfl, by decide⟩
theorem FX12_31 : tmFL RX12 31 12 8 1 := ⟨_, _, _, _, CL12, by decide, tmT_a4 203 (by decide +kernel) rfl, by decide⟩
theorem FX12_192 : tmFL RX12 192 12 9 0 := ⟨_, _, _, _, CL12, by decide, tmT_a4 204 (by decide +kernel) rfl, by decide⟩
theorem FX12_195 : tmFL RX12 195 12 10 0 := ⟨_, _, _, _, CL12, by decide, tmT_a4 205 (by decide +kernel) rfl, by decide⟩
theorem FX12_34 : tmFL RX12 34 12 11 1 := ⟨_, _, _, _, CL12, by decide, tmT_a4 206 (by decide +kernel) rfl, by decide⟩
theorem FX12_216 : tmFL RX12 216 12 12 0 := ⟨_, _, _, _, CL12, by decide, tmT_a4 207 (by decide +kernel) rfl, by decide⟩
theorem FX12_37 : tmFL RX12 37 12 13 1 := ⟨_, _, _, _, CL12, by decide, tmT_a4 208 (by decide +kernel) rfl, by decide⟩
theorem FX12_219 : tmFL RX12 219 12 14 0 := ⟨_, _, _, _, CL12, by decide, tmT_a4 209 (by decide +kernel) rfl, by decide⟩
theorem FX12_204 : tmFL RX12 204 12 15 0 := ⟨_, _, _, _, CL12, by decide, tmT_a4 210 (by decide +kernel) rfl, by decide⟩
theorem FX12_207 : tmFL RX12 207 12 16 0 := ⟨_, _, _, _, CL12, by decide, tmT_a4 211 (by decide +kernel) rfl, by decide⟩
theorem FX12_40 : tmFL RX12 40 12 17 1 := ⟨_, _, _, _, CL12, by decide, tmT_a4 212 (by decide +kernel) rfl, by decide⟩
theorem FX12_43 : tmFL RX12 43 12 18 1 := ⟨_, _, _, _, CL12, by decide, tmT_a4 213 (by decide +kernel) rfl, by decide⟩
theorem FX12_46 : tmFL RX12 46 12 19 1 := ⟨_, _, _, _, CL12, by decide, tmT_a4 214 (by decide +kernel) rfl, by decide⟩
theorem FX12_91 : tmFL RX12 91 12 20 3 := ⟨_, _, _, _, CL12, by decide, tmT_a4 215 (by decide +kernel) rfl, by decide⟩
theorem FX12_49 : tmFL RX12 49 12 21 1 := ⟨_, _, _, _, CL12, by decide, tmT_a4 216 (by decide +kernel) rfl, by decide⟩
theorem FX12_52 : tmFL RX12 52 12 22 1 := ⟨_, _, _, _, CL12, by decide, tmT_a4 217 (by decide +kernel) rfl, by decide⟩
theorem FX12_55 : tmFL RX12 55 12 23 1 := ⟨_, _, _, _, CL12, by decide, tmT_a4 218 (by decide +kernel) rfl, by decide⟩
theorem FX12_58 : tmFL RX12 58 12 24 1 := ⟨_, _, _, _, CL12, by decide, tmT_a4 219 (by decide +kernel) rfl, by decide⟩
theorem FX12_61 : tmFL RX12 61 12 25 1 := ⟨_, _, _, _, CL12, by decide, tmT_a4 220 (by decide +kernel) rfl, by decide⟩
theorem FX12_64 : tmFL RX12 64 12 26 1 := ⟨_, _, _, _, CL12, by decide, tmT_a4 221 (by decide +kernel) rfl, by decide⟩
theorem FX12_67 : tmFL RX12 67 12 27 1 := ⟨_, _, _, _, CL12, by decide, tmT_a4 222 (by decide +kernel) rfl, by decide⟩
theorem FX12_70 : tmFL RX12 70 12 28 1 := ⟨_, _, _, _, CL12, by decide, tmT_a4 223 (by decide +kernel) rfl, by decide⟩
theorem FX12_73 : tmFL RX12 73 12 29 1 := ⟨_, _, _, _, CL12, by decide, tmT_a4 224 (by decide +kernel) rfl, by decide⟩
theorem FX12_76 : tmFL RX12 76 12 30 1 := ⟨_, _, _, _, CL12, by decide, tmT_a4 225 (by decide +kernel) rfl, by decide⟩
theorem FX12_166 : tmFL RX12 166 12 31 0 := ⟨_, _, _, _, CL12, by decide, tmT_a4 226 (by decide +kernel) rfl, by decide⟩
theorem FX12_172 : tmFL RX12 172 12 32 3 := ⟨_, _, _, _, CL12, by decide, tmT_a4 227 (by decide +kernel) rfl, by decide⟩
theorem tmFP_of {own : String} {ini : Bool} {ci k N : Nat} {C : String} {T : u_T} (hc : vwCl[ci]? = some (C, T, N)) (h : (T k).2.2.2 = false ∨ ((T k).2.2.2 = true ∧ ini = true ∧ (T k).1 = own)) : tmFP own ini ci k := by
  intro C' T' N' h'
  have e := h'.symm.trans hc
  simp only [Option.some.injEq, Prod.mk.injEq] at e
  obtain ⟨rfl, rfl, rfl⟩ := e
  exact h
theorem WX0_0 : tmFP RX0 true 0 0 := tmFP_of (C := RX0) (T := TX0) (N := 3) rfl (Or.inr ⟨rfl, rfl, rfl⟩)
theorem WX0_1 : tmFP RX0 true 0 1 := tmFP_of (C := RX0) (T := TX0) (N := 3) rfl (Or.inr ⟨rfl, rfl, rfl⟩)
theorem WX0_2 : tmFP RX0 true 0 2 := tmFP_of (C := RX0) (T := TX0) (N := 3) rfl (Or.inr ⟨rfl, rfl, rfl⟩)
theorem WX1_0 : tmFP RX1 true 1 0 := tmFP_of (C := RX1) (T := TX1) (N := 2) rfl (Or.inr ⟨rfl, rfl, rfl⟩)
theorem WX1_1 (own : String) (ini : Bool) : tmFP own ini 1 1 := tmFP_of (C := RX1) (T := TX1) (N := 2) rfl (Or.inl rfl)
theorem WX2_0 (own : String) (ini : Bool) : tmFP own ini 2 0 := tmFP_of (C := RX2) (T := TX2) (N := 6) rfl (Or.inl rfl)
theorem WX2_1 (own : String) (ini : Bool) : tmFP own ini 2 1 := tmFP_of (C := RX2) (T := TX2) (N := 6) rfl (Or.inl rfl)
theorem WX2_2 : tmFP RX2 true 2 2 := tmFP_of (C := RX2) (T := TX2) (N := 6) rfl (Or.inr ⟨rfl, rfl, rfl⟩)
theorem WX2_3 : tmFP RX2 true 2 3 := tmFP_of (C := RX2) (T := TX2) (N := 6) rfl (Or.inr ⟨rfl, rfl, rfl⟩)
theorem WX2_4 : tmFP RX2 true 2 4 := tmFP_of (C := RX2) (T := TX2) (N := 6) rfl (Or.inr ⟨rfl, rfl, rfl⟩)
theorem WX2_5 : tmFP RX2 true 2 5 := tmFP_of (C := RX2) (T := TX2) (N := 6) rfl (Or.inr ⟨rfl, rfl, rfl⟩)
theorem WX3_0 : tmFP RX3 true 3 0 := tmFP_of (C := RX3) (T := TX3) (N := 8) rfl (Or.inr ⟨rfl, rfl, rfl⟩)
theorem WX3_1 : tmFP RX3 true 3 1 := tmFP_of (C := RX3) (T := TX3) (N := 8) rfl (Or.inr ⟨rfl, rfl, rfl⟩)
theorem WX3_2 : tmFP RX3 true 3 2 := tmFP_of (C := RX3) (T := TX3) (N := 8) rfl (Or.inr ⟨rfl, rfl, rfl⟩)
theorem WX3_3 : tmFP RX3 true 3 3 := tmFP_of (C := RX3) (T := TX3) (N := 8) rfl (Or.inr ⟨rfl, rfl, rfl⟩)
theorem WX3_4 : tmFP RX3 true 3 4 := tmFP_of (C := RX3) (T := TX3) (N := 8) rfl (Or.inr ⟨rfl, rfl, rfl⟩)
theorem WX3_5 : tmFP RX3 true 3 5 := tmFP_of (C := RX3) (T := TX3) (N := 8) rfl (Or.inr ⟨rfl, rfl, rfl⟩)
theorem WX3_6 : tmFP RX3 true 3 6 := tmFP_of (C := RX3) (T := TX3) (N := 8) rfl (Or.inr ⟨rfl, rfl, rfl⟩)
theorem WX3_7 : tmFP RX3 true 3 7 := tmFP_of (C := RX3) (T := TX3) (N := 8) rfl (Or.inr ⟨rfl, rfl, rfl⟩)
theorem WX4_0 : tmFP RX4 true 4 0 := tmFP_of (C := RX4) (T := TX4) (N := 7) rfl (Or.inr ⟨rfl, rfl, rfl⟩)
theorem WX4_1 : tmFP RX4 true 4 1 := tmFP_of (C := RX4) (T := TX4) (N := 7) rfl (Or.inr ⟨rfl, rfl, rfl⟩)
theorem WX4_2 : tmFP RX4 true 4 2 := tmFP_of (C := RX4) (T := TX4) (N := 7) rfl (Or.inr ⟨rfl, rfl, rfl⟩)
theorem WX4_3 (own : String) (ini : Bool) : tmFP own ini 4 3 := tmFP_of (C := RX4) (T := TX4) (N := 7) rfl (Or.inl rfl)
theorem WX4_4 : tmFP RX4 true 4 4 := tmFP_of (C := RX4) (T := TX4) (N := 7) rfl (Or.inr ⟨rfl, rfl, rfl⟩)
theorem WX4_5 : tmFP RX4 true 4 5 := tmFP_of (C := RX4) (T := TX4) (N := 7) rfl (Or.inr ⟨rfl, rfl, rfl⟩)
theorem WX4_6 : tmFP RX4 true 4 6 := tmFP_of (C := RX4) (T := TX4) (N := 7) rfl (Or.inr ⟨rfl, rfl, rfl⟩)
theorem WX5_0 : tmFP RX5 true 5 0 := tmFP_of (C := RX5) (T := TX5) (N := 8) rfl (Or.inr ⟨rfl, rfl, rfl⟩)
theorem WX5_1 : tmFP RX5 true 5 1 := tmFP_of (C := RX5) (T := TX5) (N := 8) rfl (Or.inr ⟨rfl, rfl, rfl⟩)
theorem WX5_2 (own : String) (ini : Bool) : tmFP own ini 5 2 := tmFP_of (C := RX5) (T := TX5) (N := 8) rfl (Or.inl rfl)
theorem WX5_3 : tmFP RX5 true 5 3 := tmFP_of (C := RX5) (T := TX5) (N := 8) rfl (Or.inr ⟨rfl, rfl, rfl⟩)
theorem WX5_4 (own : String) (ini : Bool) : tmFP own ini 5 4 := tmFP_of (C := RX5) (T := TX5) (N := 8) rfl (Or.inl rfl)
theorem WX5_5 : tmFP RX5 true 5 5 := tmFP_of (C := RX5) (T := TX5) (N := 8) rfl (Or.inr ⟨rfl, rfl, rfl⟩)
theorem WX5_6 : tmFP RX5 true 5 6 := tmFP_of (C := RX5) (T := TX5) (N := 8) rfl (Or.inr ⟨rfl, rfl, rfl⟩)
theorem WX5_7 : tmFP RX5 true 5 7 := tmFP_of (C := RX5) (T := TX5) (N := 8) rfl (Or.inr ⟨rfl, rfl, rfl⟩)
theorem WX6_0 : tmFP RX6 true 6 0 := tmFP_of (C := RX6) (T := TX6) (N := 4) rfl (Or.inr ⟨rfl, rfl, rfl⟩)
theorem WX6_1 : tmFP RX6 true 6 1 := tmFP_of (C := RX6) (T := TX6) (N := 4) rfl (Or.inr ⟨rfl, rfl, rfl⟩)
theorem WX6_2 (own : String) (ini : Bool) : tmFP own ini 6 2 := tmFP_of (C := RX6) (T := TX6) (N := 4) rfl (Or.inl rfl)
theorem WX6_3 : tmFP RX6 true 6 3 := tmFP_of (C := RX6) (T := TX6) (N := 4) rfl (Or.inr ⟨rfl, rfl, rfl⟩)
theorem WX7_0 : tmFP RX7 true 7 0 := tmFP_of (C := RX7) (T := TX7) (N := 3) rfl (Or.inr ⟨rfl, rfl, rfl⟩)
theorem WX7_1 (own : String) (ini : Bool) : tmFP own ini 7 1 := tmFP_of (C := RX7) (T := TX7) (N := 3) rfl (Or.inl rfl)
theorem WX7_2 (own : String) (ini : Bool) : tmFP own ini 7 2 := tmFP_of (C := RX7) (T := TX7) (N := 3) rfl (Or.inl rfl)
theorem WX8_0 (own : String) (ini : Bool) : tmFP own ini 8 0 := tmFP_of (C := RX8) (T := TX8) (N := 6) rfl (Or.inl rfl)
theorem WX8_1 : tmFP RX8 true 8 1 := tmFP_of (C := RX8) (T := TX8) (N := 6) rfl (Or.inr ⟨rfl, rfl, rfl⟩)
theorem WX8_2 : tmFP RX8 true 8 2 := tmFP_of (C := RX8) (T := TX8) (N := 6) rfl (Or.inr ⟨rfl, rfl, rfl⟩)
theorem WX8_3 : tmFP RX8 true 8 3 := tmFP_of (C := RX8) (T := TX8) (N := 6) rfl (Or.inr ⟨rfl, rfl, rfl⟩)
theorem WX8_4 : tmFP RX8 true 8 4 := tmFP_of (C := RX8) (T := TX8) (N := 6) rfl (Or.inr ⟨rfl, rfl, rfl⟩)
theorem WX8_5 : tmFP RX8 true 8 5 := tmFP_of (C := RX8) (T := TX8) (N := 6) rfl (Or.inr ⟨rfl, rfl, rfl⟩)
theorem WX9_0 : tmFP RX9 true 9 0 := tmFP_of (C := RX9) (T := TX9) (N := 9) rfl (Or.inr ⟨rfl, rfl, rfl⟩)
theorem WX9_1 (own : String) (ini : Bool) : tmFP own ini 9 1 := tmFP_of (C := RX9) (T := TX9) (N := 9) rfl (Or.inl rfl)
theorem WX9_2 : tmFP RX9 true 9 2 := tmFP_of (C := RX9) (T := TX9) (N := 9) rfl (Or.inr ⟨rfl, rfl, rfl⟩)
theorem WX9_3 : tmFP RX9 true 9 3 := tmFP_of (C := RX9) (T := TX9) (N := 9) rfl (Or.inr ⟨rfl, rfl, rfl⟩)
theorem WX9_4 : tmFP RX9 true 9 4 := tmFP_of (C := RX9) (T := TX9) (N := 9) rfl (Or.inr ⟨rfl, rfl, rfl⟩)
theorem WX9_5 : tmFP RX9 true 9 5 := tmFP_of (C := RX9) (T := TX9) (N := 9) rfl (Or.inr ⟨rfl, rfl, rfl⟩)
theorem WX9_6 : tmFP RX9 true 9 6 := tmFP_of (C := RX9) (T := TX9) (N := 9) rfl (Or.inr ⟨rfl, rfl, rfl⟩)
theorem WX9_7 (own : String) (ini : Bool) : tmFP own ini 9 7 := tmFP_of (C := RX9) (T := TX9) (N := 9) rfl (Or.inl rfl)
theorem WX9_8 (own : String) (ini : Bool) : tmFP own ini 9 8 := tmFP_of (C := RX9) (T := TX9) (N := 9) rfl (Or.inl rfl)
theorem WX10_0 : tmFP RX10 true 10 0 := tmFP_of (C := RX10) (T := TX10) (N := 4) rfl (Or.inr ⟨rfl, rfl, rfl⟩)
theorem WX10_1 : tmFP RX10 true 10 1 := tmFP_of (C := RX10) (T := TX10) (N := 4) rfl (Or.inr ⟨rfl, rfl, rfl⟩)
theorem WX10_2 (own : String) (ini : Bool) : tmFP own ini 10 2 := tmFP_of (C := RX10) (T := TX10) (N := 4) rfl (Or.inl rfl)
theorem WX10_3 (own : String) (ini : Bool) : tmFP own ini 10 3 := tmFP_of (C := RX10) (T := TX10) (N := 4) rfl (Or.inl rfl)
theorem WX11_0 : tmFP RX11 true 11 0 := tmFP_of (C := RX11) (T := TX11) (N := 11) rfl (Or.inr ⟨rfl, rfl, rfl⟩)
theorem WX11_1 : tmFP RX11 true 11 1 := tmFP_of (C := RX11) (T := TX11) (N := 11) rfl (Or.inr ⟨rfl, rfl, rfl⟩)
theorem WX11_2 : tmFP RX11 true 11 2 := tmFP_of (C := RX11) (T := TX11) (N := 11) rfl (Or.inr ⟨rfl, rfl, rfl⟩)
theorem WX11_3 : tmFP RX11 true 11 3 := tmFP_of (C := RX11) (T := TX11) (N := 11) rfl (Or.inr ⟨rfl, rfl, rfl⟩)
theorem WX11_4 : tmFP RX11 true 11 4 := tmFP_of (C := RX11) (T := TX11) (N := 11) rfl (Or.inr ⟨rfl, rfl, rfl⟩)
theorem WX11_5 : tmFP RX11 true 11 5 := tmFP_of (C := RX11) (T := TX11) (N := 11) rfl (Or.inr ⟨rfl, rfl, rfl⟩)
theorem WX11_6 : tmFP RX11 true 11 6 := tmFP_of (C := RX11) (T := TX11) (N := 11) rfl (Or.inr ⟨rfl, rfl, rfl⟩)
theorem WX11_7 : tmFP RX11 true 11 7 := tmFP_of (C := RX11) (T := TX11) (N := 11) rfl (Or.inr ⟨rfl, rfl, rfl⟩)
theorem WX11_8 : tmFP RX11 true 11 8 := tmFP_of (C := RX11) (T := TX11) (N := 11) rfl (Or.inr ⟨rfl, rfl, rfl⟩)
theorem WX11_9 (own : String) (ini : Bool) : tmFP own ini 11 9 := tmFP_of (C := RX11) (T := TX11) (N := 11) rfl (Or.inl rfl)
theorem WX11_10 (own : String) (ini : Bool) : tmFP own ini 11 10 := tmFP_of (C := RX11) (T := TX11) (N := 11) rfl (Or.inl rfl)
theorem WX12_0 : tmFP RX12 true 12 0 := tmFP_of (C := RX12) (T := TX12) (N := 33) rfl (Or.inr ⟨rfl, rfl, rfl⟩)
theorem WX12_1 : tmFP RX12 true 12 1 := tmFP_of (C := RX12) (T := TX12) (N := 33) rfl (Or.inr ⟨rfl, rfl, rfl⟩)
theorem WX12_2 (own : String) (ini : Bool) : tmFP own ini 12 2 := tmFP_of (C := RX12) (T := TX12) (N := 33) rfl (Or.inl rfl)
theorem WX12_3 : tmFP RX12 true 12 3 := tmFP_of (C := RX12) (T := TX12) (N := 33) rfl (Or.inr ⟨rfl, rfl, rfl⟩)
theorem WX12_4 : tmFP RX12 true 12 4 := tmFP_of (C := RX12) (T := TX12) (N := 33) rfl (Or.inr ⟨rfl, rfl, rfl⟩)
theorem WX12_5 : tmFP RX12 true 12 5 := tmFP_of (C := RX12) (T := TX12) (N := 33) rfl (Or.inr ⟨rfl, rfl, rfl⟩)
theorem WX12_6 : tmFP RX12 true 12 6 := tmFP_of (C := RX12) (T := TX12) (N := 33) rfl (Or.inr ⟨rfl, rfl, rfl⟩)
theorem WX12_7 : tmFP RX12 true 12 7 := tmFP_of (C := RX12) (T := TX12) (N := 33) rfl (Or.inr ⟨rfl, rfl, rfl⟩)
theorem WX12_8 : tmFP RX12 true 12 8 := tmFP_of (C := RX12) (T := TX12) (N := 33) rfl (Or.inr ⟨rfl, rfl, rfl⟩)
theorem WX12_9 (own : String) (ini : Bool) : tmFP own ini 12 9 := tmFP_of (C := RX12) (T := TX12) (N := 33) rfl (Or.inl rfl)
theorem WX12_10 (own : String) (ini : Bool) : tmFP own ini 12 10 := tmFP_of (C := RX12) (T := TX12) (N := 33) rfl (Or.inl rfl)
theorem WX12_11 : tmFP RX12 true 12 11 := tmFP_of (C := RX12) (T := TX12) (N := 33) rfl (Or.inr ⟨rfl, rfl, rfl⟩)
theorem WX12_12 (own : String) (ini : Bool) : tmFP own ini 12 12 := tmFP_of (C := RX12) (T := TX12) (N := 33) rfl (Or.inl rfl)
theorem WX12_13 : tmFP RX12 true 12 13 := tmFP_of (C := RX12) (T := TX12) (N := 33) rfl (Or.inr ⟨rfl, rfl, rfl⟩)
theorem WX12_14 (own : String) (ini : Bool) : tmFP own ini 12 14 := tmFP_of (C := RX12) (T := TX12) (N := 33) rfl (Or.inl rfl)
theorem WX12_15 (own : String) (ini : Bool) : tmFP own ini 12 15 := tmFP_of (C := RX12) (T := TX12) (N := 33) rfl (Or.inl rfl)
theorem WX12_16 (own : String) (ini : Bool) : tmFP own ini 12 16 := tmFP_of (C := RX12) (T := TX12) (N := 33) rfl (Or.inl rfl)
theorem WX12_17 : tmFP RX12 true 12 17 := tmFP_of (C := RX12) (T := TX12) (N := 33) rfl (Or.inr ⟨rfl, rfl, rfl⟩)
theorem WX12_18 : tmFP RX12 true 12 18 := tmFP_of (C := RX12) (T := TX12) (N := 33) rfl (Or.inr ⟨rfl, rfl, rfl⟩)
theorem WX12_19 : tmFP RX12 true 12 19 := tmFP_of (C := RX12) (T := TX12) (N := 33) rfl (Or.inr ⟨rfl, rfl, rfl⟩)
theorem WX12_20 (own : String) (ini : Bool) : tmFP own ini 12 20 := tmFP_of (C := RX12) (T := TX12) (N := 33) rfl (Or.inl rfl)
theorem WX12_21 : tmFP RX12 true 12 21 := tmFP_of (C := RX12) (T := TX12) (N := 33) rfl (Or.inr ⟨rfl, rfl, rfl⟩)
theorem WX12_22 : tmFP RX12 true 12 22 := tmFP_of (C := RX12) (T := TX12) (N := 33) rfl (Or.inr ⟨rfl, rfl, rfl⟩)
theorem WX12_23 : tmFP RX12 true 12 23 := tmFP_of (C := RX12) (T := TX12) (N := 33) rfl (Or.inr ⟨rfl, rfl, rfl⟩)
theorem WX12_24 : tmFP RX12 true 12 24 := tmFP_of (C := RX12) (T := TX12) (N := 33) rfl (Or.inr ⟨rfl, rfl, rfl⟩)
theorem WX12_25 : tmFP RX12 true 12 25 := tmFP_of (C := RX12) (T := TX12) (N := 33) rfl (Or.inr ⟨rfl, rfl, rfl⟩)
theorem WX12_26 : tmFP RX12 true 12 26 := tmFP_of (C := RX12) (T := TX12) (N := 33) rfl (Or.inr ⟨rfl, rfl, rfl⟩)
theorem WX12_27 : tmFP RX12 true 12 27 := tmFP_of (C := RX12) (T := TX12) (N := 33) rfl (Or.inr ⟨rfl, rfl, rfl⟩)
theorem WX12_28 : tmFP RX12 true 12 28 := tmFP_of (C := RX12) (T := TX12) (N := 33) rfl (Or.inr ⟨rfl, rfl, rfl⟩)
theorem WX12_29 : tmFP RX12 true 12 29 := tmFP_of (C := RX12) (T := TX12) (N := 33) rfl (Or.inr ⟨rfl, rfl, rfl⟩)
theorem WX12_30 : tmFP RX12 true 12 30 := tmFP_of (C := RX12) (T := TX12) (N := 33) rfl (Or.inr ⟨rfl, rfl, rfl⟩)
theorem WX12_31 (own : String) (ini : Bool) : tmFP own ini 12 31 := tmFP_of (C := RX12) (T := TX12) (N := 33) rfl (Or.inl rfl)
theorem WX12_32 (own : String) (ini : Bool) : tmFP own ini 12 32 := tmFP_of (C := RX12) (T := TX12) (N := 33) rfl (Or.inl rfl)
abbrev kX11_init : tmMS := (RX11, cX11_init, 1, none, true)
theorem KX11_init : tmKI yX11_init kX11_init 0 := ⟨⟨tmT_a1 26 (by decide +kernel) rfl, tmT_a1 1 (by decide +kernel) rfl, (by decide +kernel), by decide⟩, tmT_a1 25 (by decide +kernel) rfl, rfl, rfl⟩
abbrev kX6_init : tmMS := (RX6, cX6_init, 2, none, true)
theorem KX6_init : tmKI yX6_init kX6_init 0 := ⟨⟨tmT_a1 34 (by decide +kernel) rfl, tmT_a1 2 (by decide +kernel) rfl, (by decide +kernel), by decide⟩, tmT_a1 33 (by decide +kernel) rfl, rfl, rfl⟩
abbrev kX8_init : tmMS := (RX8, cX8_init, 1, none, true)
theorem KX8_init : tmKI yX8_init kX8_init 0 := ⟨⟨tmT_a1 40 (by decide +kernel) rfl, tmT_a1 3 (by decide +kernel) rfl, (by decide +kernel), by decide⟩, tmT_a1 39 (by decide +kernel) rfl, rfl, rfl⟩
abbrev kX2_init : tmMS := (RX2, cX2_init, 3, none, true)
theorem KX2_init : tmKI yX2_init kX2_init 1 := ⟨⟨tmT_a1 88 (by decide +kernel) rfl, tmT_a1 4 (by decide +kernel) rfl, (by decide +kernel), by decide⟩, tmT_a1 87 (by decide +kernel) rfl, rfl, rfl⟩
abbrev kJ9_max_7cf53 : tmMS := (RJ9, cJ9_max_7cf53, 2, some .int, false)
theorem KJ9_max_7cf53 : tmKS yJ9_max_7cf53 kJ9_max_7cf53 2 := ⟨⟨tmT_a1 92 (by decide +kernel) rfl, tmT_a1 5 (by decide +kernel) rfl, (by decide +kernel), by decide⟩, tmT_a1 91 (by decide +kernel) rfl⟩
abbrev kX7_init : tmMS := (RX7, cX7_init, 2, none, true)
theorem KX7_init : tmKI yX7_init kX7_init 0 := ⟨⟨tmT_a1 151 (by decide +kernel) rfl, tmT_a1 6 (by decide +kernel) rfl, (by decide +kernel), by decide⟩, tmT_a1 150 (by decide +kernel) rfl, rfl, rfl⟩
abbrev kX5_init : tmMS := (RX5, cX5_init, 1, none, true)
theorem KX5_init : tmKI yX5_init kX5_init 0 := ⟨⟨tmT_a1 171 (by decide +kernel) rfl, tmT_a1 7 (by decide +kernel) rfl, (by decide +kernel), by decide⟩, tmT_a1 170 (by decide +kernel) rfl, rfl, rfl⟩
abbrev kJ7_fill_53178 : tmMS := (RJ7, cJ7_fill_53178, 4, none, false)
theorem KJ7_fill_53178 : tmKS yJ7_fill_53178 kJ7_fill_53178 2 := ⟨⟨tmT_a1 175 (by decide +kernel) rfl, tmT_a1 8 (by decide +kernel) rfl, (by decide +kernel), by decide⟩, tmT_a1 174 (by decide +kernel) rfl⟩
abbrev kX0_init : tmMS := (RX0, cX0_init, 2, none, true)
theorem KX0_init : tmKI yX0_init kX0_init 1 := ⟨⟨tmT_a1 207 (by decide +kernel) rfl, tmT_a1 9 (by decide +kernel) rfl, (by decide +kernel), by decide⟩, tmT_a1 206 (by decide +kernel) rfl, rfl, rfl⟩
abbrev kX4_init : tmMS := (RX4, cX4_init, 3, none, true)
theorem KX4_init : tmKI yX4_init kX4_init 2 := ⟨⟨tmT_a1 224 (by decide +kernel) rfl, tmT_a1 10 (by decide +kernel) rfl, (by decide +kernel), by decide⟩, tmT_a1 223 (by decide +kernel) rfl, rfl, rfl⟩
abbrev kX1_init : tmMS := (RX1, cX1_init, 2, none, true)
theorem KX1_init : tmKI yX1_init kX1_init 1 := ⟨⟨tmT_a1 230 (by decide +kernel) rfl, tmT_a1 11 (by decide +kernel) rfl, (by decide +kernel), by decide⟩, tmT_a1 229 (by decide +kernel) rfl, rfl, rfl⟩
abbrev kX3_init : tmMS := (RX3, cX3_init, 5, none, true)
theorem KX3_init : tmKI yX3_init kX3_init 4 := ⟨⟨tmT_a2 29 (by decide +kernel) rfl, tmT_a1 12 (by decide +kernel) rfl, (by decide +kernel), by decide⟩, tmT_a2 28 (by decide +kernel) rfl, rfl, rfl⟩
abbrev kX9_init : tmMS := (RX9, cX9_init, 3, none, true)
theorem KX9_init : tmKI yX9_init kX9_init 2 := ⟨⟨tmT_a2 63 (by decide +kernel) rfl, tmT_a1 13 (by decide +kernel) rfl, (by decide +kernel), by decide⟩, tmT_a2 62 (by decide +kernel) rfl, rfl, rfl⟩
abbrev kX10_init : tmMS := (RX10, cX10_init, 1, none, true)
theorem KX10_init : tmKI yX10_init kX10_init 0 := ⟨⟨tmT_a2 101 (by decide +kernel) rfl, tmT_a1 14 (by decide +kernel) rfl, (by decide +kernel), by decide⟩, tmT_a2 100 (by decide +kernel) rfl, rfl, rfl⟩
abbrev kX11_term : tmMS := (RX11, cX11_term, 9, some .int, false)
theorem KX11_term : tmKV yX11_term kX11_term 3 := ⟨⟨tmT_a2 154 (by decide +kernel) rfl, tmT_a1 1 (by decide +kernel) rfl, (by decide +kernel), by decide⟩, tmT_a2 152 (by decide +kernel) rfl, tmT_a2 153 (by decide +kernel) rfl⟩
abbrev kX11_refuse : tmMS := (RX11, cX11_refuse, 3, some .int, false)
theorem KX11_refuse : tmKV yX11_refuse kX11_refuse 1 := ⟨⟨tmT_a2 158 (by decide +kernel) rfl, tmT_a1 1 (by decide +kernel) rfl, (by decide +kernel), by decide⟩, tmT_a2 157 (by decide +kernel) rfl, tmT_sel (q := (yX11_refuse, 11)) (List.mem_of_getElem? (i := 0) (by decide +kernel))⟩
abbrev kX8_has : tmMS := (RX8, cX8_has, 2, some .boolean, false)
theorem KX8_has : tmKV yX8_has kX8_has 1 := ⟨⟨tmT_a2 162 (by decide +kernel) rfl, tmT_a1 3 (by decide +kernel) rfl, (by decide +kernel), by decide⟩, tmT_a2 160 (by decide +kernel) rfl, tmT_a2 161 (by decide +kernel) rfl⟩
abbrev kX8_lookUp : tmMS := (RX8, cX8_lookUp, 5, some .int, false)
theorem KX8_lookUp : tmKV yX8_lookUp kX8_lookUp 3 := ⟨⟨tmT_a2 166 (by decide +kernel) rfl, tmT_a1 3 (by decide +kernel) rfl, (by decide +kernel), by decide⟩, tmT_a2 164 (by decide +kernel) rfl, tmT_a2 165 (by decide +kernel) rfl⟩
abbrev kX7_keep : tmMS := (RX7, cX7_keep, 2, none, false)
theorem KX7_keep : tmKV yX7_keep kX7_keep 1 := ⟨⟨tmT_a2 170 (by decide +kernel) rfl, tmT_a1 6 (by decide +kernel) rfl, (by decide +kernel), by decide⟩, tmT_a2 168 (by decide +kernel) rfl, tmT_a2 169 (by decide +kernel) rfl⟩
abbrev kX7_prepare : tmMS := (RX7, cX7_prepare, 2, none, false)
theorem KX7_prepare : tmKV yX7_prepare kX7_prepare 1 := ⟨⟨tmT_a2 174 (by decide +kernel) rfl, tmT_a1 6 (by decide +kernel) rfl, (by decide +kernel), by decide⟩, tmT_a2 172 (by decide +kernel) rfl, tmT_a2 173 (by decide +kernel) rfl⟩
abbrev kX6_copyFrom : tmMS := (RX6, cX6_copyFrom, 3, none, false)
theorem KX6_copyFrom : tmKV yX6_copyFrom kX6_copyFrom 1 := ⟨⟨tmT_a2 178 (by decide +kernel) rfl, tmT_a1 2 (by decide +kernel) rfl, (by decide +kernel), by decide⟩, tmT_a2 176 (by decide +kernel) rfl, tmT_a2 177 (by decide +kernel) rfl⟩
abbrev kX8_copyFrom : tmMS := (RX8, cX8_copyFrom, 2, none, false)
theorem KX8_copyFrom : tmKV yX8_copyFrom kX8_copyFrom 1 := ⟨⟨tmT_a2 182 (by decide +kernel) rfl, tmT_a1 3 (by decide +kernel) rfl, (by decide +kernel), by decide⟩, tmT_a2 180 (by decide +kernel) rfl, tmT_a2 181 (by decide +kernel) rfl⟩
abbrev kX7_keepPrepared : tmMS := (RX7, cX7_keepPrepared, 1, none, false)
theorem KX7_keepPrepared : tmKV yX7_keepPrepared kX7_keepPrepared 0 := ⟨⟨tmT_a2 189 (by decide +kernel) rfl, tmT_a1 6 (by decide +kernel) rfl, (by decide +kernel), by decide⟩, tmT_a2 187 (by decide +kernel) rfl, tmT_a2 188 (by decide +kernel) rfl⟩
abbrev kJ9_min_7cf53 : tmMS := (RJ9, cJ9_min_7cf53, 2, some .int, false)
theorem KJ9_min_7cf53 : tmKS yJ9_min_7cf53 kJ9_min_7cf53 2 := ⟨⟨tmT_a2 192 (by decide +kernel) rfl, tmT_a1 5 (by decide +kernel) rfl, (by decide +kernel), by decide⟩, tmT_a2 191 (by decide +kernel) rfl⟩
abbrev kX8_add : tmMS := (RX8, cX8_add, 5, some .int, false)
theorem KX8_add : tmKV yX8_add kX8_add 4 := ⟨⟨tmT_a2 196 (by decide +kernel) rfl, tmT_a1 3 (by decide +kernel) rfl, (by decide +kernel), by decide⟩, tmT_a2 194 (by decide +kernel) rfl, tmT_a2 195 (by decide +kernel) rfl⟩
abbrev kX11_settleAll : tmMS := (RX11, cX11_settleAll, 1, none, false)
theorem KX11_settleAll : tmKV yX11_settleAll kX11_settleAll 0 := ⟨⟨tmT_a2 200 (by decide +kernel) rfl, tmT_a1 1 (by decide +kernel) rfl, (by decide +kernel), by decide⟩, tmT_a2 199 (by decide +kernel) rfl, tmT_sel (q := (yX11_settleAll, 11)) (List.mem_of_getElem? (i := 1) (by decide +kernel))⟩
abbrev kX5_settle : tmMS := (RX5, cX5_settle, 4, none, false)
theorem KX5_settle : tmKV yX5_settle kX5_settle 1 := ⟨⟨tmT_a2 204 (by decide +kernel) rfl, tmT_a1 7 (by decide +kernel) rfl, (by decide +kernel), by decide⟩, tmT_a2 202 (by decide +kernel) rfl, tmT_a2 203 (by decide +kernel) rfl⟩
abbrev kX5_sweep : tmMS := (RX5, cX5_sweep, 5, some .boolean, false)
theorem KX5_sweep : tmKV yX5_sweep kX5_sweep 1 := ⟨⟨tmT_a2 208 (by decide +kernel) rfl, tmT_a1 7 (by decide +kernel) rfl, (by decide +kernel), by decide⟩, tmT_a2 207 (by decide +kernel) rfl, tmT_sel (q := (yX5_sweep, 8)) (List.mem_of_getElem? (i := 2) (by decide +kernel))⟩
abbrev kX5_emptyPlaces : tmMS := (RX5, cX5_emptyPlaces, 2, none, false)
theorem KX5_emptyPlaces : tmKV yX5_emptyPlaces kX5_emptyPlaces 0 := ⟨⟨tmT_a2 212 (by decide +kernel) rfl, tmT_a1 7 (by decide +kernel) rfl, (by decide +kernel), by decide⟩, tmT_a2 211 (by decide +kernel) rfl, tmT_sel (q := (yX5_emptyPlaces, 8)) (List.mem_of_getElem? (i := 3) (by decide +kernel))⟩
abbrev kX8_homeOf : tmMS := (RX8, cX8_homeOf, 2, some .int, false)
theorem KX8_homeOf : tmKV yX8_homeOf kX8_homeOf 1 := ⟨⟨tmT_a2 216 (by decide +kernel) rfl, tmT_a1 3 (by decide +kernel) rfl, (by decide +kernel), by decide⟩, tmT_a2 214 (by decide +kernel) rfl, tmT_a2 215 (by decide +kernel) rfl⟩
abbrev kX5_keyOf : tmMS := (RX5, cX5_keyOf, 3, some .int, false)
theorem KX5_keyOf : tmKS yX5_keyOf kX5_keyOf 3 := ⟨⟨tmT_a2 220 (by decide +kernel) rfl, tmT_a1 7 (by decide +kernel) rfl, (by decide +kernel), by decide⟩, tmT_a2 219 (by decide +kernel) rfl⟩
abbrev kX5_tellPlace : tmMS := (RX5, cX5_tellPlace, 3, none, false)
theorem KX5_tellPlace : tmKV yX5_tellPlace kX5_tellPlace 2 := ⟨⟨tmT_a2 224 (by decide +kernel) rfl, tmT_a1 7 (by decide +kernel) rfl, (by decide +kernel), by decide⟩, tmT_a2 223 (by decide +kernel) rfl, tmT_sel (q := (yX5_tellPlace, 8)) (List.mem_of_getElem? (i := 4) (by decide +kernel))⟩
abbrev kX8_unite : tmMS := (RX8, cX8_unite, 8, some .boolean, false)
theorem KX8_unite : tmKV yX8_unite kX8_unite 2 := ⟨⟨tmT_a2 228 (by decide +kernel) rfl, tmT_a1 3 (by decide +kernel) rfl, (by decide +kernel), by decide⟩, tmT_a2 226 (by decide +kernel) rfl, tmT_a2 227 (by decide +kernel) rfl⟩
abbrev kX4_forget : tmMS := (RX4, cX4_forget, 1, none, false)
theorem KX4_forget : tmKV yX4_forget kX4_forget 0 := ⟨⟨tmT_a2 235 (by decide +kernel) rfl, tmT_a1 10 (by decide +kernel) rfl, (by decide +kernel), by decide⟩, tmT_a2 233 (by decide +kernel) rfl, tmT_a2 234 (by decide +kernel) rfl⟩
abbrev kX11_alike : tmMS := (RX11, cX11_alike, 4, some .int, false)
theorem KX11_alike : tmKV yX11_alike kX11_alike 2 := ⟨⟨tmT_a2 239 (by decide +kernel) rfl, tmT_a1 1 (by decide +kernel) rfl, (by decide +kernel), by decide⟩, tmT_a2 237 (by decide +kernel) rfl, tmT_a2 238 (by decide +kernel) rfl⟩
abbrev kX11_classes : tmMS := (RX11, cX11_classes, 1, some .int, false)
theorem KX11_classes : tmKV yX11_classes kX11_classes 0 := ⟨⟨tmT_a3 3 (by decide +kernel) rfl, tmT_a1 1 (by decide +kernel) rfl, (by decide +kernel), by decide⟩, tmT_a3 1 (by decide +kernel) rfl, tmT_a3 2 (by decide +kernel) rfl⟩
abbrev kX8_countClasses : tmMS := (RX8, cX8_countClasses, 4, some .int, false)
theorem KX8_countClasses : tmKV yX8_countClasses kX8_countClasses 1 := ⟨⟨tmT_a3 7 (by decide +kernel) rfl, tmT_a1 3 (by decide +kernel) rfl, (by decide +kernel), by decide⟩, tmT_a3 5 (by decide +kernel) rfl, tmT_a3 6 (by decide +kernel) rfl⟩
abbrev kX11_anew : tmMS := (RX11, cX11_anew, 2, some .int, false)
theorem KX11_anew : tmKV yX11_anew kX11_anew 0 := ⟨⟨tmT_a3 12 (by decide +kernel) rfl, tmT_a1 1 (by decide +kernel) rfl, (by decide +kernel), by decide⟩, tmT_a3 10 (by decide +kernel) rfl, tmT_a3 11 (by decide +kernel) rfl⟩
abbrev kX6_empty : tmMS := (RX6, cX6_empty, 1, none, false)
theorem KX6_empty : tmKV yX6_empty kX6_empty 0 := ⟨⟨tmT_a3 16 (by decide +kernel) rfl, tmT_a1 2 (by decide +kernel) rfl, (by decide +kernel), by decide⟩, tmT_a3 14 (by decide +kernel) rfl, tmT_a3 15 (by decide +kernel) rfl⟩
abbrev kX11_of : tmMS := (RX11, cX11_of, 3, some .int, false)
theorem KX11_of : tmKV yX11_of kX11_of 2 := ⟨⟨tmT_a3 20 (by decide +kernel) rfl, tmT_a1 1 (by decide +kernel) rfl, (by decide +kernel), by decide⟩, tmT_a3 18 (by decide +kernel) rfl, tmT_a3 19 (by decide +kernel) rfl⟩
abbrev kX11_same : tmMS := (RX11, cX11_same, 3, some .int, false)
theorem KX11_same : tmKV yX11_same kX11_same 2 := ⟨⟨tmT_a3 24 (by decide +kernel) rfl, tmT_a1 1 (by decide +kernel) rfl, (by decide +kernel), by decide⟩, tmT_a3 22 (by decide +kernel) rfl, tmT_a3 23 (by decide +kernel) rfl⟩
abbrev kX11_about : tmMS := (RX11, cX11_about, 4, some .int, false)
theorem KX11_about : tmKV yX11_about kX11_about 2 := ⟨⟨tmT_a3 29 (by decide +kernel) rfl, tmT_a1 1 (by decide +kernel) rfl, (by decide +kernel), by decide⟩, tmT_a3 27 (by decide +kernel) rfl, tmT_a3 28 (by decide +kernel) rfl⟩
abbrev kX8_countIn : tmMS := (RX8, cX8_countIn, 4, some .int, false)
theorem KX8_countIn : tmKV yX8_countIn kX8_countIn 1 := ⟨⟨tmT_a3 33 (by decide +kernel) rfl, tmT_a1 3 (by decide +kernel) rfl, (by decide +kernel), by decide⟩, tmT_a3 31 (by decide +kernel) rfl, tmT_a3 32 (by decide +kernel) rfl⟩
abbrev kX8_leastGeneration : tmMS := (RX8, cX8_leastGeneration, 4, some .int, false)
theorem KX8_leastGeneration : tmKV yX8_leastGeneration kX8_leastGeneration 1 := ⟨⟨tmT_a3 37 (by decide +kernel) rfl, tmT_a1 3 (by decide +kernel) rfl, (by decide +kernel), by decide⟩, tmT_a3 35 (by decide +kernel) rfl, tmT_a3 36 (by decide +kernel) rfl⟩
abbrev kX5_fewestSigns : tmMS := (RX5, cX5_fewestSigns, 8, some .int, false)
theorem KX5_fewestSigns : tmKV yX5_fewestSigns kX5_fewestSigns 2 := ⟨⟨tmT_a3 41 (by decide +kernel) rfl, tmT_a1 7 (by decide +kernel) rfl, (by decide +kernel), by decide⟩, tmT_a3 39 (by decide +kernel) rfl, tmT_a3 40 (by decide +kernel) rfl⟩
abbrev kX5_fewestOf : tmMS := (RX5, cX5_fewestOf, 2, some .int, false)
theorem KX5_fewestOf : tmKV yX5_fewestOf kX5_fewestOf 1 := ⟨⟨tmT_a3 46 (by decide +kernel) rfl, tmT_a1 7 (by decide +kernel) rfl, (by decide +kernel), by decide⟩, tmT_a3 45 (by decide +kernel) rfl, tmT_sel (q := (yX5_fewestOf, 8)) (List.mem_of_getElem? (i := 5) (by decide +kernel))⟩
abbrev kX8_countUsers : tmMS := (RX8, cX8_countUsers, 4, some .int, false)
theorem KX8_countUsers : tmKV yX8_countUsers kX8_countUsers 1 := ⟨⟨tmT_a3 50 (by decide +kernel) rfl, tmT_a1 3 (by decide +kernel) rfl, (by decide +kernel), by decide⟩, tmT_a3 48 (by decide +kernel) rfl, tmT_a3 49 (by decide +kernel) rfl⟩
abbrev kX11_rule : tmMS := (RX11, cX11_rule, 4, some .int, false)
theorem KX11_rule : tmKV yX11_rule kX11_rule 2 := ⟨⟨tmT_a3 54 (by decide +kernel) rfl, tmT_a1 1 (by decide +kernel) rfl, (by decide +kernel), by decide⟩, tmT_a3 52 (by decide +kernel) rfl, tmT_a3 53 (by decide +kernel) rfl⟩
abbrev kX6_hasRule : tmMS := (RX6, cX6_hasRule, 2, some .boolean, false)
theorem KX6_hasRule : tmKV yX6_hasRule kX6_hasRule 1 := ⟨⟨tmT_a3 58 (by decide +kernel) rfl, tmT_a1 2 (by decide +kernel) rfl, (by decide +kernel), by decide⟩, tmT_a3 56 (by decide +kernel) rfl, tmT_a3 57 (by decide +kernel) rfl⟩
abbrev kX6_ruleAt : tmMS := (RX6, cX6_ruleAt, 2, some (.object "TriggerMatches$Pattern"), false)
theorem KX6_ruleAt : tmKV yX6_ruleAt kX6_ruleAt 1 := ⟨⟨tmT_a3 62 (by decide +kernel) rfl, tmT_a1 2 (by decide +kernel) rfl, (by decide +kernel), by decide⟩, tmT_a3 60 (by decide +kernel) rfl, tmT_a3 61 (by decide +kernel) rfl⟩
abbrev kX2_lettersIn : tmMS := (RX2, cX2_lettersIn, 5, some .int, false)
theorem KX2_lettersIn : tmKV yX2_lettersIn kX2_lettersIn 2 := ⟨⟨tmT_a3 67 (by decide +kernel) rfl, tmT_a1 4 (by decide +kernel) rfl, (by decide +kernel), by decide⟩, tmT_a3 65 (by decide +kernel) rfl, tmT_a3 66 (by decide +kernel) rfl⟩
abbrev kJ6_bitCount_0f7a4 : tmMS := (RJ6, cJ6_bitCount_0f7a4, 1, some .int, false)
theorem KJ6_bitCount_0f7a4 : tmKS yJ6_bitCount_0f7a4 kJ6_bitCount_0f7a4 1 := ⟨⟨tmT_a3 70 (by decide +kernel) rfl, tmT_a1 17 (by decide +kernel) rfl, (by decide +kernel), by decide⟩, tmT_a3 69 (by decide +kernel) rfl⟩
abbrev kX2_signsIn : tmMS := (RX2, cX2_signsIn, 5, some .int, false)
theorem KX2_signsIn : tmKV yX2_signsIn kX2_signsIn 2 := ⟨⟨tmT_a3 77 (by decide +kernel) rfl, tmT_a1 4 (by decide +kernel) rfl, (by decide +kernel), by decide⟩, tmT_a3 75 (by decide +kernel) rfl, tmT_a3 76 (by decide +kernel) rfl⟩
abbrev kX4_look : tmMS := (RX4, cX4_look, 3, some (.object "TriggerMatches$Findings"), false)
theorem KX4_look : tmKV yX4_look kX4_look 1 := ⟨⟨tmT_a3 81 (by decide +kernel) rfl, tmT_a1 10 (by decide +kernel) rfl, (by decide +kernel), by decide⟩, tmT_a3 79 (by decide +kernel) rfl, tmT_a3 80 (by decide +kernel) rfl⟩
abbrev kX4_markGenerations : tmMS := (RX4, cX4_markGenerations, 4, none, false)
theorem KX4_markGenerations : tmKV yX4_markGenerations kX4_markGenerations 0 := ⟨⟨tmT_a3 85 (by decide +kernel) rfl, tmT_a1 10 (by decide +kernel) rfl, (by decide +kernel), by decide⟩, tmT_a3 84 (by decide +kernel) rfl, tmT_sel (q := (yX4_markGenerations, 7)) (List.mem_of_getElem? (i := 6) (by decide +kernel))⟩
abbrev kX5_markParts : tmMS := (RX5, cX5_markParts, 6, none, false)
theorem KX5_markParts : tmKV yX5_markParts kX5_markParts 1 := ⟨⟨tmT_a3 91 (by decide +kernel) rfl, tmT_a1 7 (by decide +kernel) rfl, (by decide +kernel), by decide⟩, tmT_a3 89 (by decide +kernel) rfl, tmT_a3 90 (by decide +kernel) rfl⟩
abbrev kJ7_fill_d0a16 : tmMS := (RJ7, cJ7_fill_d0a16, 5, none, false)
theorem KJ7_fill_d0a16 : tmKS yJ7_fill_d0a16 kJ7_fill_d0a16 2 := ⟨⟨tmT_a3 94 (by decide +kernel) rfl, tmT_a1 8 (by decide +kernel) rfl, (by decide +kernel), by decide⟩, tmT_a3 93 (by decide +kernel) rfl⟩
abbrev kX4_stands : tmMS := (RX4, cX4_stands, 5, some .boolean, false)
theorem KX4_stands : tmKV yX4_stands kX4_stands 2 := ⟨⟨tmT_a3 99 (by decide +kernel) rfl, tmT_a1 10 (by decide +kernel) rfl, (by decide +kernel), by decide⟩, tmT_a3 98 (by decide +kernel) rfl, tmT_sel (q := (yX4_stands, 7)) (List.mem_of_getElem? (i := 7) (by decide +kernel))⟩
abbrev kX4_chosenFor : tmMS := (RX4, cX4_chosenFor, 2, some .int, false)
theorem KX4_chosenFor : tmKV yX4_chosenFor kX4_chosenFor 1 := ⟨⟨tmT_a3 103 (by decide +kernel) rfl, tmT_a1 10 (by decide +kernel) rfl, (by decide +kernel), by decide⟩, tmT_a3 102 (by decide +kernel) rfl, tmT_sel (q := (yX4_chosenFor, 7)) (List.mem_of_getElem? (i := 8) (by decide +kernel))⟩
abbrev kX4_valueOf : tmMS := (RX4, cX4_valueOf, 2, some .int, false)
theorem KX4_valueOf : tmKV yX4_valueOf kX4_valueOf 1 := ⟨⟨tmT_a3 107 (by decide +kernel) rfl, tmT_a1 10 (by decide +kernel) rfl, (by decide +kernel), by decide⟩, tmT_a3 106 (by decide +kernel) rfl, tmT_sel (q := (yX4_valueOf, 7)) (List.mem_of_getElem? (i := 9) (by decide +kernel))⟩
abbrev kX4_choose : tmMS := (RX4, cX4_choose, 7, none, false)
theorem KX4_choose : tmKV yX4_choose kX4_choose 3 := ⟨⟨tmT_a3 113 (by decide +kernel) rfl, tmT_a1 10 (by decide +kernel) rfl, (by decide +kernel), by decide⟩, tmT_a3 112 (by decide +kernel) rfl, tmT_sel (q := (yX4_choose, 7)) (List.mem_of_getElem? (i := 10) (by decide +kernel))⟩
abbrev kX4_note : tmMS := (RX4, cX4_note, 5, none, false)
theorem KX4_note : tmKV yX4_note kX4_note 1 := ⟨⟨tmT_a3 117 (by decide +kernel) rfl, tmT_a1 10 (by decide +kernel) rfl, (by decide +kernel), by decide⟩, tmT_a3 116 (by decide +kernel) rfl, tmT_sel (q := (yX4_note, 7)) (List.mem_of_getElem? (i := 11) (by decide +kernel))⟩
abbrev kX4_leastOf : tmMS := (RX4, cX4_leastOf, 2, some .int, false)
theorem KX4_leastOf : tmKV yX4_leastOf kX4_leastOf 1 := ⟨⟨tmT_a3 121 (by decide +kernel) rfl, tmT_a1 10 (by decide +kernel) rfl, (by decide +kernel), by decide⟩, tmT_a3 120 (by decide +kernel) rfl, tmT_sel (q := (yX4_leastOf, 7)) (List.mem_of_getElem? (i := 12) (by decide +kernel))⟩
abbrev kX1_add : tmMS := (RX1, cX1_add, 9, none, false)
theorem KX1_add : tmKV yX1_add kX1_add 6 := ⟨⟨tmT_a3 126 (by decide +kernel) rfl, tmT_a1 11 (by decide +kernel) rfl, (by decide +kernel), by decide⟩, tmT_a3 124 (by decide +kernel) rfl, tmT_a3 125 (by decide +kernel) rfl⟩
abbrev kX1_isFull : tmMS := (RX1, cX1_isFull, 1, some .boolean, false)
theorem KX1_isFull : tmKV yX1_isFull kX1_isFull 0 := ⟨⟨tmT_a3 130 (by decide +kernel) rfl, tmT_a1 11 (by decide +kernel) rfl, (by decide +kernel), by decide⟩, tmT_a3 128 (by decide +kernel) rfl, tmT_a3 129 (by decide +kernel) rfl⟩
abbrev kX4_fitting : tmMS := (RX4, cX4_fitting, 6, some .long, false)
theorem KX4_fitting : tmKV yX4_fitting kX4_fitting 2 := ⟨⟨tmT_a3 134 (by decide +kernel) rfl, tmT_a1 10 (by decide +kernel) rfl, (by decide +kernel), by decide⟩, tmT_a3 133 (by decide +kernel) rfl, tmT_sel (q := (yX4_fitting, 7)) (List.mem_of_getElem? (i := 13) (by decide +kernel))⟩
abbrev kX2_isLetter : tmMS := (RX2, cX2_isLetter, 3, some .boolean, false)
theorem KX2_isLetter : tmKV yX2_isLetter kX2_isLetter 2 := ⟨⟨tmT_a3 139 (by decide +kernel) rfl, tmT_a1 4 (by decide +kernel) rfl, (by decide +kernel), by decide⟩, tmT_a3 137 (by decide +kernel) rfl, tmT_a3 138 (by decide +kernel) rfl⟩
abbrev kX4_knownValue : tmMS := (RX4, cX4_knownValue, 4, some .int, false)
theorem KX4_knownValue : tmKV yX4_knownValue kX4_knownValue 3 := ⟨⟨tmT_a3 143 (by decide +kernel) rfl, tmT_a1 10 (by decide +kernel) rfl, (by decide +kernel), by decide⟩, tmT_a3 142 (by decide +kernel) rfl, tmT_sel (q := (yX4_knownValue, 7)) (List.mem_of_getElem? (i := 14) (by decide +kernel))⟩
abbrev kX2_stageOf : tmMS := (RX2, cX2_stageOf, 2, some .int, false)
theorem KX2_stageOf : tmKV yX2_stageOf kX2_stageOf 1 := ⟨⟨tmT_a3 147 (by decide +kernel) rfl, tmT_a1 4 (by decide +kernel) rfl, (by decide +kernel), by decide⟩, tmT_a3 145 (by decide +kernel) rfl, tmT_a3 146 (by decide +kernel) rfl⟩
abbrev kX5_firstsFor : tmMS := (RX5, cX5_firstsFor, 3, some .long, false)
theorem KX5_firstsFor : tmKV yX5_firstsFor kX5_firstsFor 2 := ⟨⟨tmT_a3 151 (by decide +kernel) rfl, tmT_a1 7 (by decide +kernel) rfl, (by decide +kernel), by decide⟩, tmT_a3 149 (by decide +kernel) rfl, tmT_a3 150 (by decide +kernel) rfl⟩
abbrev kX5_secondsFor : tmMS := (RX5, cX5_secondsFor, 2, some .long, false)
theorem KX5_secondsFor : tmKV yX5_secondsFor kX5_secondsFor 1 := ⟨⟨tmT_a3 155 (by decide +kernel) rfl, tmT_a1 7 (by decide +kernel) rfl, (by decide +kernel), by decide⟩, tmT_a3 153 (by decide +kernel) rfl, tmT_a3 154 (by decide +kernel) rfl⟩
abbrev kX1_countInTime : tmMS := (RX1, cX1_countInTime, 4, some .int, false)
theorem KX1_countInTime : tmKV yX1_countInTime kX1_countInTime 1 := ⟨⟨tmT_a3 160 (by decide +kernel) rfl, tmT_a1 11 (by decide +kernel) rfl, (by decide +kernel), by decide⟩, tmT_a3 158 (by decide +kernel) rfl, tmT_a3 159 (by decide +kernel) rfl⟩
abbrev kX1_isLate : tmMS := (RX1, cX1_isLate, 3, some .boolean, false)
theorem KX1_isLate : tmKV yX1_isLate kX1_isLate 2 := ⟨⟨tmT_a3 164 (by decide +kernel) rfl, tmT_a1 11 (by decide +kernel) rfl, (by decide +kernel), by decide⟩, tmT_a3 162 (by decide +kernel) rfl, tmT_a3 163 (by decide +kernel) rfl⟩
abbrev kX1_tell : tmMS := (RX1, cX1_tell, 3, some .int, false)
theorem KX1_tell : tmKV yX1_tell kX1_tell 2 := ⟨⟨tmT_a3 168 (by decide +kernel) rfl, tmT_a1 11 (by decide +kernel) rfl, (by decide +kernel), by decide⟩, tmT_a3 166 (by decide +kernel) rfl, tmT_a3 167 (by decide +kernel) rfl⟩
abbrev kX11_finding : tmMS := (RX11, cX11_finding, 5, some .int, false)
theorem KX11_finding : tmKV yX11_finding kX11_finding 3 := ⟨⟨tmT_a3 173 (by decide +kernel) rfl, tmT_a1 1 (by decide +kernel) rfl, (by decide +kernel), by decide⟩, tmT_a3 171 (by decide +kernel) rfl, tmT_a3 172 (by decide +kernel) rfl⟩
abbrev kX11_drop : tmMS := (RX11, cX11_drop, 2, some .int, false)
theorem KX11_drop : tmKV yX11_drop kX11_drop 1 := ⟨⟨tmT_a3 178 (by decide +kernel) rfl, tmT_a1 1 (by decide +kernel) rfl, (by decide +kernel), by decide⟩, tmT_a3 176 (by decide +kernel) rfl, tmT_a3 177 (by decide +kernel) rfl⟩
abbrev kX6_removeRule : tmMS := (RX6, cX6_removeRule, 3, none, false)
theorem KX6_removeRule : tmKV yX6_removeRule kX6_removeRule 1 := ⟨⟨tmT_a3 182 (by decide +kernel) rfl, tmT_a1 2 (by decide +kernel) rfl, (by decide +kernel), by decide⟩, tmT_a3 180 (by decide +kernel) rfl, tmT_a3 181 (by decide +kernel) rfl⟩
abbrev kX11_sets : tmMS := (RX11, cX11_sets, 5, some .int, false)
theorem KX11_sets : tmKV yX11_sets kX11_sets 2 := ⟨⟨tmT_a3 186 (by decide +kernel) rfl, tmT_a1 1 (by decide +kernel) rfl, (by decide +kernel), by decide⟩, tmT_a3 184 (by decide +kernel) rfl, tmT_a3 185 (by decide +kernel) rfl⟩
abbrev kX11_round : tmMS := (RX11, cX11_round, 1, some .int, false)
theorem KX11_round : tmKV yX11_round kX11_round 0 := ⟨⟨tmT_a3 190 (by decide +kernel) rfl, tmT_a1 1 (by decide +kernel) rfl, (by decide +kernel), by decide⟩, tmT_a3 188 (by decide +kernel) rfl, tmT_a3 189 (by decide +kernel) rfl⟩
abbrev kX3_run : tmMS := (RX3, cX3_run, 5, some .int, false)
theorem KX3_run : tmKV yX3_run kX3_run 2 := ⟨⟨tmT_a3 194 (by decide +kernel) rfl, tmT_a1 12 (by decide +kernel) rfl, (by decide +kernel), by decide⟩, tmT_a3 192 (by decide +kernel) rfl, tmT_a3 193 (by decide +kernel) rfl⟩
abbrev kX3_collect : tmMS := (RX3, cX3_collect, 5, none, false)
theorem KX3_collect : tmKV yX3_collect kX3_collect 1 := ⟨⟨tmT_a3 199 (by decide +kernel) rfl, tmT_a1 12 (by decide +kernel) rfl, (by decide +kernel), by decide⟩, tmT_a3 198 (by decide +kernel) rfl, tmT_sel (q := (yX3_collect, 8)) (List.mem_of_getElem? (i := 15) (by decide +kernel))⟩
abbrev kX1_addFrom : tmMS := (RX1, cX1_addFrom, 3, none, false)
theorem KX1_addFrom : tmKV yX1_addFrom kX1_addFrom 2 := ⟨⟨tmT_a3 205 (by decide +kernel) rfl, tmT_a1 11 (by decide +kernel) rfl, (by decide +kernel), by decide⟩, tmT_a3 203 (by decide +kernel) rfl, tmT_a3 204 (by decide +kernel) rfl⟩
abbrev kX3_arrange : tmMS := (RX3, cX3_arrange, 5, none, false)
theorem KX3_arrange : tmKV yX3_arrange kX3_arrange 1 := ⟨⟨tmT_a3 209 (by decide +kernel) rfl, tmT_a1 12 (by decide +kernel) rfl, (by decide +kernel), by decide⟩, tmT_a3 208 (by decide +kernel) rfl, tmT_sel (q := (yX3_arrange, 8)) (List.mem_of_getElem? (i := 16) (by decide +kernel))⟩
abbrev kX3_keyOf : tmMS := (RX3, cX3_keyOf, 4, some .int, false)
theorem KX3_keyOf : tmKV yX3_keyOf kX3_keyOf 2 := ⟨⟨tmT_a3 213 (by decide +kernel) rfl, tmT_a1 12 (by decide +kernel) rfl, (by decide +kernel), by decide⟩, tmT_a3 212 (by decide +kernel) rfl, tmT_sel (q := (yX3_keyOf, 8)) (List.mem_of_getElem? (i := 17) (by decide +kernel))⟩
abbrev kX3_doOne : tmMS := (RX3, cX3_doOne, 9, some .boolean, false)
theorem KX3_doOne : tmKV yX3_doOne kX3_doOne 1 := ⟨⟨tmT_a3 220 (by decide +kernel) rfl, tmT_a1 12 (by decide +kernel) rfl, (by decide +kernel), by decide⟩, tmT_a3 219 (by decide +kernel) rfl, tmT_sel (q := (yX3_doOne, 8)) (List.mem_of_getElem? (i := 18) (by decide +kernel))⟩
abbrev kX3_buildRight : tmMS := (RX3, cX3_buildRight, 4, some .int, false)
theorem KX3_buildRight : tmKV yX3_buildRight kX3_buildRight 2 := ⟨⟨tmT_a3 225 (by decide +kernel) rfl, tmT_a1 12 (by decide +kernel) rfl, (by decide +kernel), by decide⟩, tmT_a3 224 (by decide +kernel) rfl, tmT_sel (q := (yX3_buildRight, 8)) (List.mem_of_getElem? (i := 19) (by decide +kernel))⟩
abbrev kX0_build : tmMS := (RX0, cX0_build, 8, some .int, false)
theorem KX0_build : tmKV yX0_build kX0_build 4 := ⟨⟨tmT_a3 231 (by decide +kernel) rfl, tmT_a1 9 (by decide +kernel) rfl, (by decide +kernel), by decide⟩, tmT_a3 229 (by decide +kernel) rfl, tmT_a3 230 (by decide +kernel) rfl⟩
abbrev kX0_termOf : tmMS := (RX0, cX0_termOf, 8, some .int, false)
theorem KX0_termOf : tmKV yX0_termOf kX0_termOf 3 := ⟨⟨tmT_a3 235 (by decide +kernel) rfl, tmT_a1 9 (by decide +kernel) rfl, (by decide +kernel), by decide⟩, tmT_a3 234 (by decide +kernel) rfl, tmT_sel (q := (yX0_termOf, 3)) (List.mem_of_getElem? (i := 20) (by decide +kernel))⟩
abbrev kX0_madeOf : tmMS := (RX0, cX0_madeOf, 2, some .int, false)
theorem KX0_madeOf : tmKV yX0_madeOf kX0_madeOf 1 := ⟨⟨tmT_a3 239 (by decide +kernel) rfl, tmT_a1 9 (by decide +kernel) rfl, (by decide +kernel), by decide⟩, tmT_a3 237 (by decide +kernel) rfl, tmT_a3 238 (by decide +kernel) rfl⟩
abbrev kX11_rounds : tmMS := (RX11, cX11_rounds, 3, some .int, false)
theorem KX11_rounds : tmKV yX11_rounds kX11_rounds 1 := ⟨⟨tmT_a4 8 (by decide +kernel) rfl, tmT_a1 1 (by decide +kernel) rfl, (by decide +kernel), by decide⟩, tmT_a4 6 (by decide +kernel) rfl, tmT_a4 7 (by decide +kernel) rfl⟩
abbrev kX11_last : tmMS := (RX11, cX11_last, 2, some .int, false)
theorem KX11_last : tmKV yX11_last kX11_last 1 := ⟨⟨tmT_a4 12 (by decide +kernel) rfl, tmT_a1 1 (by decide +kernel) rfl, (by decide +kernel), by decide⟩, tmT_a4 10 (by decide +kernel) rfl, tmT_a4 11 (by decide +kernel) rfl⟩
abbrev kX11_still : tmMS := (RX11, cX11_still, 1, some .int, false)
theorem KX11_still : tmKV yX11_still kX11_still 0 := ⟨⟨tmT_a4 16 (by decide +kernel) rfl, tmT_a1 1 (by decide +kernel) rfl, (by decide +kernel), by decide⟩, tmT_a4 14 (by decide +kernel) rfl, tmT_a4 15 (by decide +kernel) rfl⟩
abbrev kX3_wouldChange : tmMS := (RX3, cX3_wouldChange, 5, some .boolean, false)
theorem KX3_wouldChange : tmKV yX3_wouldChange kX3_wouldChange 1 := ⟨⟨tmT_a4 20 (by decide +kernel) rfl, tmT_a1 12 (by decide +kernel) rfl, (by decide +kernel), by decide⟩, tmT_a4 18 (by decide +kernel) rfl, tmT_a4 19 (by decide +kernel) rfl⟩
abbrev kX3_wouldChangeBy : tmMS := (RX3, cX3_wouldChangeBy, 6, some .boolean, false)
theorem KX3_wouldChangeBy : tmKV yX3_wouldChangeBy kX3_wouldChangeBy 2 := ⟨⟨tmT_a4 24 (by decide +kernel) rfl, tmT_a1 12 (by decide +kernel) rfl, (by decide +kernel), by decide⟩, tmT_a4 23 (by decide +kernel) rfl, tmT_sel (q := (yX3_wouldChangeBy, 8)) (List.mem_of_getElem? (i := 21) (by decide +kernel))⟩
abbrev kX11_type : tmMS := (RX11, cX11_type, 2, some .int, false)
theorem KX11_type : tmKV yX11_type kX11_type 1 := ⟨⟨tmT_a4 28 (by decide +kernel) rfl, tmT_a1 1 (by decide +kernel) rfl, (by decide +kernel), by decide⟩, tmT_a4 26 (by decide +kernel) rfl, tmT_a4 27 (by decide +kernel) rfl⟩
abbrev kX11_clear : tmMS := (RX11, cX11_clear, 2, some .int, false)
theorem KX11_clear : tmKV yX11_clear kX11_clear 0 := ⟨⟨tmT_a4 32 (by decide +kernel) rfl, tmT_a1 1 (by decide +kernel) rfl, (by decide +kernel), by decide⟩, tmT_a4 30 (by decide +kernel) rfl, tmT_a4 31 (by decide +kernel) rfl⟩
abbrev kX11_reads : tmMS := (RX11, cX11_reads, 2, some .int, false)
theorem KX11_reads : tmKV yX11_reads kX11_reads 0 := ⟨⟨tmT_a4 36 (by decide +kernel) rfl, tmT_a1 1 (by decide +kernel) rfl, (by decide +kernel), by decide⟩, tmT_a4 34 (by decide +kernel) rfl, tmT_a4 35 (by decide +kernel) rfl⟩
abbrev kX9_read : tmMS := (RX9, cX9_read, 2, some .int, false)
theorem KX9_read : tmKV yX9_read kX9_read 0 := ⟨⟨tmT_a4 41 (by decide +kernel) rfl, tmT_a1 13 (by decide +kernel) rfl, (by decide +kernel), by decide⟩, tmT_a4 39 (by decide +kernel) rfl, tmT_a4 40 (by decide +kernel) rfl⟩
abbrev kX9_peek : tmMS := (RX9, cX9_peek, 1, some .int, false)
theorem KX9_peek : tmKV yX9_peek kX9_peek 0 := ⟨⟨tmT_a4 45 (by decide +kernel) rfl, tmT_a1 13 (by decide +kernel) rfl, (by decide +kernel), by decide⟩, tmT_a4 44 (by decide +kernel) rfl, tmT_sel (q := (yX9_peek, 9)) (List.mem_of_getElem? (i := 22) (by decide +kernel))⟩
abbrev kX9_sentence : tmMS := (RX9, cX9_sentence, 2, some .boolean, false)
theorem KX9_sentence : tmKV yX9_sentence kX9_sentence 0 := ⟨⟨tmT_a4 49 (by decide +kernel) rfl, tmT_a1 13 (by decide +kernel) rfl, (by decide +kernel), by decide⟩, tmT_a4 48 (by decide +kernel) rfl, tmT_sel (q := (yX9_sentence, 9)) (List.mem_of_getElem? (i := 23) (by decide +kernel))⟩
abbrev kX2_empty : tmMS := (RX2, cX2_empty, 1, none, false)
theorem KX2_empty : tmKV yX2_empty kX2_empty 0 := ⟨⟨tmT_a4 53 (by decide +kernel) rfl, tmT_a1 4 (by decide +kernel) rfl, (by decide +kernel), by decide⟩, tmT_a4 51 (by decide +kernel) rfl, tmT_a4 52 (by decide +kernel) rfl⟩
abbrev kX9_readSide : tmMS := (RX9, cX9_readSide, 4, some .boolean, false)
theorem KX9_readSide : tmKV yX9_readSide kX9_readSide 1 := ⟨⟨tmT_a4 57 (by decide +kernel) rfl, tmT_a1 13 (by decide +kernel) rfl, (by decide +kernel), by decide⟩, tmT_a4 56 (by decide +kernel) rfl, tmT_sel (q := (yX9_readSide, 9)) (List.mem_of_getElem? (i := 24) (by decide +kernel))⟩
abbrev kX9_signOf : tmMS := (RX9, cX9_signOf, 2, some .int, false)
theorem KX9_signOf : tmKS yX9_signOf kX9_signOf 1 := ⟨⟨tmT_a4 60 (by decide +kernel) rfl, tmT_a1 13 (by decide +kernel) rfl, (by decide +kernel), by decide⟩, tmT_a4 59 (by decide +kernel) rfl⟩
abbrev kJ0_charAt_5068e : tmMS := (RJ0, cJ0_charAt_5068e, 2, some .char, false)
theorem KJ0_charAt_5068e : tmKV yJ0_charAt_5068e kJ0_charAt_5068e 1 := ⟨⟨tmT_a4 65 (by decide +kernel) rfl, tmT_a1 18 (by decide +kernel) rfl, (by decide +kernel), by decide⟩, tmT_a4 63 (by decide +kernel) rfl, tmT_a4 64 (by decide +kernel) rfl⟩
abbrev kJ0_isLatin1_aae02 : tmMS := (RJ0, cJ0_isLatin1_aae02, 1, some .boolean, false)
theorem KJ0_isLatin1_aae02 : tmKV yJ0_isLatin1_aae02 kJ0_isLatin1_aae02 0 := ⟨⟨tmT_a4 69 (by decide +kernel) rfl, tmT_a1 18 (by decide +kernel) rfl, (by decide +kernel), by decide⟩, tmT_a4 67 (by decide +kernel) rfl, tmT_a4 68 (by decide +kernel) rfl⟩
abbrev kJ1_charAt_3b067 : tmMS := (RJ1, cJ1_charAt_3b067, 2, some .char, false)
theorem KJ1_charAt_3b067 : tmKS yJ1_charAt_3b067 kJ1_charAt_3b067 2 := ⟨⟨tmT_a4 74 (by decide +kernel) rfl, tmT_a1 19 (by decide +kernel) rfl, (by decide +kernel), by decide⟩, tmT_a4 73 (by decide +kernel) rfl⟩
abbrev kJ0_checkIndex_df160 : tmMS := (RJ0, cJ0_checkIndex_df160, 2, none, false)
