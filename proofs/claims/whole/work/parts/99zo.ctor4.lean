/-! ===== 99zo: the constructors of the class and of the reference ===== -/
def I00 : Nat → Nat → Int := fun _ _ => 0
def L00 : Nat → Nat → Int64 := fun _ _ => 0
def I01 : Nat → Nat → Int := va_up I00 134 (tmFill (I00 134) 2604 (-1))
def I02 : Nat → Nat → Int := va_up I01 143 (va_up (I01 143) 3 (-1))
def I11 : Nat → Nat → Int := va_up I02 0 (va_up (I02 0) 10 3)
def K11 : List (Nat × Nat) := (lxK.zip lxN).take 168
def R11 : List (Nat × Nat × Nat) := xrS 1 2 ++ (0, 0, 1) :: (14, 0, 15) :: (xrSs 15 9 0 16 ++ (0, 1, 14) :: (133, 0, 134) :: (133, 1, 135) :: (133, 3, 136) :: (133, 5, 137) :: (133, 6, 138) :: (133, 7, 139) :: (0, 2, 133) :: (140, 1, 141) :: (140, 2, 142) :: (140, 0, 2) :: (0, 3, 140) :: (144, 0, 145) :: (143, 2, 144) :: (143, 4, 146) :: (143, 5, 147) :: (143, 6, 148) :: (143, 0, 1) :: (143, 1, 133) :: (0, 4, 143) :: (150, 0, 151) :: (149, 4, 150) :: (149, 5, 152) :: (149, 6, 153) :: (149, 7, 154) :: (149, 0, 1) :: (149, 1, 133) :: (149, 2, 143) :: (149, 3, 140) :: (0, 5, 149) :: (155, 0, 156) :: (xrP 157 158 ++ [(155, 4, 157), (155, 5, 162), (155, 6, 163), (155, 2, 1), (155, 3, 140), (0, 6, 155), (164, 0, 165), (164, 1, 166), (0, 7, 164), (0, 8, 167)]))
set_option maxRecDepth 20000 in
theorem hz00 : HZ [(11, 0)] [] I00 L00 := ⟨fun _ h => (by cases h), fun _ _ => rfl, fun _ _ => rfl⟩
set_option maxHeartbeats 8000000 in
set_option maxRecDepth 20000 in
theorem c_iX11 : tmC yX11_init kX11_init 5 167 9942 [tR 0] (HB [(11, 0)] [], I00, L00) (iQ K11 R11 I11 L00 168) := by
  have hz := hz00
  have hn : [((11 : Nat), (0 : Nat))].length = 1 := rfl
  have ho : tmObj (HB [(11, 0)] []) 0 11 := ⟨by decide, by decide⟩
  refine tmC.mk (lv := [some (tR 0)]) 0 ⟨rfl, by decide +kernel, by decide⟩ rfl rfl ?_
  refine wa_aload_n dX11_init_0 rfl ?_
  refine wa_objInit dX11_init_1 LX11_1 Oinst Ocode (by decide) (Nat.le_of_ble_eq_true rfl) ?_
  refine wa_aload_n dX11_init_4 rfl ?_
  have hz1 := hz
  have hn1 := hn
  refine wb_new dX11_init_5 CL6 NX11_7 IX6 JX6 rfl rfl hz hn (fun hz hn => ?_)
  refine wa_dup dX11_init_8 rfl ?_
  refine wa_callI dX11_init_9 KX6_init LX11_9 (c_iX6 (by decide) hz hn (ob_n hn1) (hz1.2.1 _ (Nat.le_of_eq hn1))) (by decide) rfl (Nat.le_of_ble_eq_true rfl) rfl rfl (fun r h' hq => ?_)
  obtain ⟨rfl, rfl, hz, hn⟩ := hq
  refine wb_putR dX11_init_12 FX11_10 WX11_0 (by (repeat refine ob_k (rs := []) ?_); exact ob_r ho) hz (fun hz => ?_)
  refine wa_aload_n dX11_init_15 rfl ?_
  have hz2 := hz
  have hn2 := hn
  refine wb_new dX11_init_16 CL7 NX11_16 IX7 JX7 rfl rfl hz hn (fun hz hn => ?_)
  refine wa_dup dX11_init_19 rfl ?_
  refine wa_callI dX11_init_20 KX7_init LX11_18 (c_iX7 (by decide) hz hn (ob_n hn2) (hz2.2.1 _ (Nat.le_of_eq hn2))) (by decide) rfl (Nat.le_of_ble_eq_true rfl) rfl rfl (fun r h' hq => ?_)
  obtain ⟨rfl, rfl, hz, hn⟩ := hq
  refine wb_putR dX11_init_23 FX11_19 WX11_1 (by (repeat refine ob_k (rs := []) ?_); exact ob_r ho) hz (fun hz => ?_)
  refine wa_aload_n dX11_init_26 rfl ?_
  have hz3 := hz
  have hn3 := hn
  refine wb_new dX11_init_27 CL5 NX11_23 IX5 JX5 rfl rfl hz hn (fun hz hn => ?_)
  refine wa_dup dX11_init_30 rfl ?_
  refine wa_callI dX11_init_31 KX5_init LX11_25 (c_iX5 hz hn (ob_n hn3) (hz3.2.1 _ (Nat.le_of_eq hn3)) (hz3.2.2 _ (Nat.le_of_eq hn3))) (by decide) rfl (Nat.le_of_ble_eq_true rfl) rfl rfl (fun r h' hq => ?_)
  obtain ⟨rfl, rfl, hz, hn⟩ := hq
  refine wb_putR dX11_init_34 FX11_26 WX11_2 (by (repeat refine ob_k (rs := []) ?_); exact ob_r ho) hz (fun hz => ?_)
  refine wa_aload_n dX11_init_37 rfl ?_
  have hz4 := hz
  have hn4 := hn
  refine wb_new dX11_init_38 CL0 NX11_30 IX0 JX0 rfl rfl hz hn (fun hz hn => ?_)
  refine wa_dup dX11_init_41 rfl ?_
  refine wa_aload_n dX11_init_42 rfl ?_
  refine wt_getR dX11_init_43 FX11_10 (by (repeat refine ob_k (rs := []) ?_); exact ob_r ho) (show RF2 _ 0 0 = some 1 by decide +kernel) ?_
  refine wt_getR dX11_init_46 FX11_32 ⟨by decide +kernel, by decide +kernel⟩ (show RF2 _ 1 0 = some 2 by decide +kernel) ?_
  refine wa_callI dX11_init_49 KX0_init LX11_36 (c_iX0 (t := 2) hz hn (ob_n hn4)) (by decide) rfl (Nat.le_of_ble_eq_true rfl) rfl rfl (fun r h' hq => ?_)
  obtain ⟨rfl, rfl, hz, hn⟩ := hq
  refine wb_putR dX11_init_52 FX11_39 WX11_3 (by (repeat refine ob_k (rs := []) ?_); exact ob_r ho) hz (fun hz => ?_)
  refine wa_aload_n dX11_init_55 rfl ?_
  have hz5 := hz
  have hn5 := hn
  refine wb_new dX11_init_56 CL4 NX11_43 IX4 JX4 rfl rfl hz hn (fun hz hn => ?_)
  refine wa_dup dX11_init_59 rfl ?_
  refine wa_aload_n dX11_init_60 rfl ?_
  refine wt_getR dX11_init_61 FX11_10 (by (repeat refine ob_k (rs := []) ?_); exact ob_r ho) (show RF2 _ 0 0 = some 1 by decide +kernel) ?_
  refine wa_aload_n dX11_init_64 rfl ?_
  refine wt_getR dX11_init_65 FX11_26 (by (repeat refine ob_k (rs := []) ?_); exact ob_r ho) (show RF2 _ 0 2 = some 133 by decide +kernel) ?_
  refine wa_callI dX11_init_68 KX4_init LX11_45 (c_iX4 (a := 1) (b := 133) (by decide) hz hn (ob_n hn5)) (by decide) rfl (Nat.le_of_ble_eq_true rfl) rfl rfl (fun r h' hq => ?_)
  obtain ⟨rfl, rfl, hz, hn⟩ := hq
  refine wb_putR dX11_init_71 FX11_48 WX11_4 (by (repeat refine ob_k (rs := []) ?_); exact ob_r ho) hz (fun hz => ?_)
  refine wa_aload_n dX11_init_74 rfl ?_
  have hz6 := hz
  have hn6 := hn
  refine wb_new dX11_init_75 CL3 NX11_52 IX3 JX3 rfl rfl hz hn (fun hz hn => ?_)
  refine wa_dup dX11_init_78 rfl ?_
  refine wa_aload_n dX11_init_79 rfl ?_
  refine wt_getR dX11_init_80 FX11_10 (by (repeat refine ob_k (rs := []) ?_); exact ob_r ho) (show RF2 _ 0 0 = some 1 by decide +kernel) ?_
  refine wa_aload_n dX11_init_83 rfl ?_
  refine wt_getR dX11_init_84 FX11_26 (by (repeat refine ob_k (rs := []) ?_); exact ob_r ho) (show RF2 _ 0 2 = some 133 by decide +kernel) ?_
  refine wa_aload_n dX11_init_87 rfl ?_
  refine wt_getR dX11_init_88 FX11_48 (by (repeat refine ob_k (rs := []) ?_); exact ob_r ho) (show RF2 _ 0 4 = some 143 by decide +kernel) ?_
  refine wa_aload_n dX11_init_91 rfl ?_
  refine wt_getR dX11_init_92 FX11_39 (by (repeat refine ob_k (rs := []) ?_); exact ob_r ho) (show RF2 _ 0 3 = some 140 by decide +kernel) ?_
  refine wa_callI dX11_init_95 KX3_init LX11_54 (c_iX3 (a := 1) (b := 133) (e := 143) (f := 140) hz hn (ob_n hn6)) (by decide) rfl (Nat.le_of_ble_eq_true rfl) rfl rfl (fun r h' hq => ?_)
  obtain ⟨rfl, rfl, hz, hn⟩ := hq
  refine wb_putR dX11_init_98 FX11_57 WX11_5 (by (repeat refine ob_k (rs := []) ?_); exact ob_r ho) hz (fun hz => ?_)
  refine wa_aload_n dX11_init_101 rfl ?_
  have hz7 := hz
  have hn7 := hn
  refine wb_new dX11_init_102 CL9 NX11_61 IX9 JX9 rfl rfl hz hn (fun hz hn => ?_)
  refine wa_dup dX11_init_105 rfl ?_
  refine wa_aload_n dX11_init_106 rfl ?_
  refine wt_getR dX11_init_107 FX11_10 (by (repeat refine ob_k (rs := []) ?_); exact ob_r ho) (show RF2 _ 0 0 = some 1 by decide +kernel) ?_
  refine wa_aload_n dX11_init_110 rfl ?_
  refine wt_getR dX11_init_111 FX11_39 (by (repeat refine ob_k (rs := []) ?_); exact ob_r ho) (show RF2 _ 0 3 = some 140 by decide +kernel) ?_
  refine wa_callI dX11_init_114 KX9_init LX11_63 (c_iX9 (a := 1) (b := 140) hz hn (ob_n hn7) (hz7.2.1 _ (Nat.le_of_eq hn7))) (by decide) rfl (Nat.le_of_ble_eq_true rfl) rfl rfl (fun r h' hq => ?_)
  obtain ⟨rfl, rfl, hz, hn⟩ := hq
  refine wb_putR dX11_init_117 FX11_66 WX11_6 (by (repeat refine ob_k (rs := []) ?_); exact ob_r ho) hz (fun hz => ?_)
  refine wa_aload_n dX11_init_120 rfl ?_
  have hz8 := hz
  have hn8 := hn
  refine wb_new dX11_init_121 CL10 NX11_70 IX10 JX10 rfl rfl hz hn (fun hz hn => ?_)
  refine wa_dup dX11_init_124 rfl ?_
  refine wa_callIN dX11_init_125 KX10_init (fun _ _ _ h => h.2.2.2.2.1) (c_iX10 hz hn (ob_n hn8) (hz8.2.1 _ (Nat.le_of_eq hn8))) (by decide) rfl (Nat.le_of_ble_eq_true rfl) rfl rfl (fun r h' hq => ?_)
  obtain ⟨rfl, rfl, hz, hn⟩ := hq
  refine wb_putR dX11_init_128 FX11_73 WX11_7 (by (repeat refine ob_k (rs := []) ?_); exact ob_r ho) hz (fun hz => ?_)
  refine wa_aload_n dX11_init_131 rfl ?_
  refine wa_iconst dX11_init_132 ?_
  refine wb_newaI dX11_init_133 Aint rfl (by decide) rfl rfl hz hn (fun hz hn => ?_)
  refine wb_putR dX11_init_135 FX11_77 WX11_8 (by (repeat refine ob_k (rs := []) ?_); exact ob_r ho) hz (fun hz => ?_)
  refine wa_aload_n dX11_init_138 rfl ?_
  refine wa_iconst dX11_init_139 ?_
  refine wb_put0 dX11_init_140 FX11_81 (WX11_9 _ _) (by (repeat refine ob_k (rs := []) ?_); exact ob_r ho) rfl ?_
  refine wa_aload_n dX11_init_143 rfl ?_
  refine wa_iconst dX11_init_144 ?_
  refine wt_putI dX11_init_145 FX11_85 (WX11_10 _ _) (by (repeat refine ob_k (rs := []) ?_); exact ob_r ho) (by first | exact hI _ _ | exact ⟨by omega, by omega⟩ | assumption) ?_
  refine wa_return dX11_init_148 rfl ?_
  exact iQ.mk (by decide +kernel) (by decide +kernel) (hz.i (by rw [hn]; decide)) hn rfl
def xkM : List (Nat × Nat) := [(13, 984), (13, 7872), (13, 984), (13, 2), (13, 5), (13, 5), (13, 3), (13, 120), (13, 120), (13, 120), (13, 120), (13, 120), (13, 120), (13, 4), (13, 100), (13, 2500), (13, 50), (13, 6000), (13, 6), (13, 120), (13, 3), (13, 50), (13, 300)]
def xrM (o n : Nat) : List (Nat × Nat × Nat) := [(o, 0, n), (o, 1, n + 1), (o, 3, n + 2), (o, 4, n + 3), (o, 5, n + 4), (o, 6, n + 5), (o, 7, n + 6), (o, 8, n + 7), (o, 11, n + 8), (o, 13, n + 9), (o, 17, n + 10), (o, 18, n + 11), (o, 19, n + 12), (o, 21, n + 13), (o, 22, n + 14), (o, 23, n + 15), (o, 24, n + 16), (o, 25, n + 17), (o, 26, n + 18), (o, 27, n + 19), (o, 28, n + 20), (o, 29, n + 21), (o, 30, n + 22)]
set_option maxRecDepth 20000 in
theorem c_iX12 {ks : List (Nat × Nat)} {rs : List (Nat × Nat × Nat)} {I : Nat → Nat → Int} {L : Nat → Nat → Int64} {n o : Nat} (hz : HZ ks rs I L) (hn : ks.length = n) (ho : tmObj (HB ks rs) o 12) : tmC yX12_init kX12_init 2 23 19708 [tR o] (HB ks rs, I, L) (iQ (ks ++ xkM) (rs ++ xrM o n) (va_up (va_up I (n + 3) (va_up (I (n + 3)) 0 0)) (n + 3) (va_up ((va_up I (n + 3) (va_up (I (n + 3)) 0 0)) (n + 3)) 1 3)) L (n + 23)) := by
  refine tmC.mk (lv := [some (tR o)]) 0 ⟨rfl, by decide +kernel, by decide⟩ rfl rfl ?_
  refine wa_aload_n dX12_init_0 rfl ?_
  refine wa_objInit dX12_init_1 LX12_1 Oinst Ocode (by decide) (Nat.le_of_ble_eq_true rfl) ?_
  refine wa_aload_n dX12_init_4 rfl ?_
  refine wa_sipush dX12_init_5 rfl ?_
  refine wb_newaI dX12_init_8 Aint rfl (by decide) rfl rfl hz hn (fun hz hn => ?_)
  refine wb_putR dX12_init_10 FX12_7 WX12_0 (by (repeat refine ob_k (rs := []) ?_); exact ob_r ho) hz (fun hz => ?_)
  refine wa_aload_n dX12_init_13 rfl ?_
  refine wa_sipush dX12_init_14 rfl ?_
  refine wb_newaI dX12_init_17 Aint rfl (by decide) rfl rfl hz hn (fun hz hn => ?_)
  refine wb_putR dX12_init_19 FX12_13 WX12_1 (by (repeat refine ob_k (rs := []) ?_); exact ob_r ho) hz (fun hz => ?_)
  refine wa_aload_n dX12_init_22 rfl ?_
  refine wa_sipush dX12_init_23 rfl ?_
  refine wb_newaI dX12_init_26 Aint rfl (by decide) rfl rfl hz hn (fun hz hn => ?_)
  refine wb_putR dX12_init_28 FX12_16 WX12_3 (by (repeat refine ob_k (rs := []) ?_); exact ob_r ho) hz (fun hz => ?_)
  refine wa_aload_n dX12_init_31 rfl ?_
  refine wa_iconst dX12_init_32 ?_
  have hn3 := hn
  refine wb_newaI dX12_init_33 Aint rfl (by decide) rfl rfl hz hn (fun hz hn => ?_)
  refine wa_dup dX12_init_35 rfl ?_
  refine wa_iconst dX12_init_36 ?_
  refine wa_iconst dX12_init_37 ?_
  refine wt_iast 0 dX12_init_38 (ar_n hn3 (by decide)) rfl (by decide) (by first | exact hI _ _ | exact ⟨by omega, by omega⟩ | assumption) ?_
  refine wa_dup dX12_init_39 rfl ?_
  refine wa_iconst dX12_init_40 ?_
  refine wa_iconst dX12_init_41 ?_
  refine wt_iast 1 dX12_init_42 (ar_n hn3 (by decide)) rfl (by decide) (by first | exact hI _ _ | exact ⟨by omega, by omega⟩ | assumption) ?_
  replace hz := (hz.i (i := n + 3) (f := va_up (I (n + 3)) 0 0) (by rw [hn]; omega)).i (i := n + 3) (f := va_up ((va_up I (n + 3) (va_up (I (n + 3)) 0 0)) (n + 3)) 1 3) (by rw [hn]; omega)
  refine wb_putR dX12_init_43 FX12_19 WX12_4 (by (repeat refine ob_k (rs := []) ?_); exact ob_r ho) hz (fun hz => ?_)
  refine wa_aload_n dX12_init_46 rfl ?_
  refine wa_iconst dX12_init_47 ?_
  refine wb_newaI dX12_init_48 Aint rfl (by decide) rfl rfl hz hn (fun hz hn => ?_)
  refine wb_putR dX12_init_50 FX12_22 WX12_5 (by (repeat refine ob_k (rs := []) ?_); exact ob_r ho) hz (fun hz => ?_)
  refine wa_aload_n dX12_init_53 rfl ?_
  refine wa_iconst dX12_init_54 ?_
  refine wb_newaI dX12_init_55 Aint rfl (by decide) rfl rfl hz hn (fun hz hn => ?_)
  refine wb_putR dX12_init_57 FX12_25 WX12_6 (by (repeat refine ob_k (rs := []) ?_); exact ob_r ho) hz (fun hz => ?_)
  refine wa_aload_n dX12_init_60 rfl ?_
  refine wa_iconst dX12_init_61 ?_
  refine wb_newaI dX12_init_62 Aint rfl (by decide) rfl rfl hz hn (fun hz hn => ?_)
  refine wb_putR dX12_init_64 FX12_28 WX12_7 (by (repeat refine ob_k (rs := []) ?_); exact ob_r ho) hz (fun hz => ?_)
  refine wa_aload_n dX12_init_67 rfl ?_
  refine wa_bipush dX12_init_68 rfl ?_
  refine wb_newaI dX12_init_70 Aint rfl (by decide) rfl rfl hz hn (fun hz hn => ?_)
  refine wb_putR dX12_init_72 FX12_31 WX12_8 (by (repeat refine ob_k (rs := []) ?_); exact ob_r ho) hz (fun hz => ?_)
  refine wa_aload_n dX12_init_75 rfl ?_
  refine wa_bipush dX12_init_76 rfl ?_
  refine wb_newaI dX12_init_78 Aint rfl (by decide) rfl rfl hz hn (fun hz hn => ?_)
  refine wb_putR dX12_init_80 FX12_34 WX12_11 (by (repeat refine ob_k (rs := []) ?_); exact ob_r ho) hz (fun hz => ?_)
  refine wa_aload_n dX12_init_83 rfl ?_
  refine wa_bipush dX12_init_84 rfl ?_
  refine wb_newaI dX12_init_86 Aint rfl (by decide) rfl rfl hz hn (fun hz hn => ?_)
  refine wb_putR dX12_init_88 FX12_37 WX12_13 (by (repeat refine ob_k (rs := []) ?_); exact ob_r ho) hz (fun hz => ?_)
  refine wa_aload_n dX12_init_91 rfl ?_
  refine wa_bipush dX12_init_92 rfl ?_
  refine wb_newaI dX12_init_94 Aint rfl (by decide) rfl rfl hz hn (fun hz hn => ?_)
  refine wb_putR dX12_init_96 FX12_40 WX12_17 (by (repeat refine ob_k (rs := []) ?_); exact ob_r ho) hz (fun hz => ?_)
  refine wa_aload_n dX12_init_99 rfl ?_
  refine wa_bipush dX12_init_100 rfl ?_
  refine wb_newaI dX12_init_102 Aint rfl (by decide) rfl rfl hz hn (fun hz hn => ?_)
  refine wb_putR dX12_init_104 FX12_43 WX12_18 (by (repeat refine ob_k (rs := []) ?_); exact ob_r ho) hz (fun hz => ?_)
  refine wa_aload_n dX12_init_107 rfl ?_
  refine wa_bipush dX12_init_108 rfl ?_
  refine wb_newaI dX12_init_110 Aint rfl (by decide) rfl rfl hz hn (fun hz hn => ?_)
  refine wb_putR dX12_init_112 FX12_46 WX12_19 (by (repeat refine ob_k (rs := []) ?_); exact ob_r ho) hz (fun hz => ?_)
  refine wa_aload_n dX12_init_115 rfl ?_
  refine wa_iconst dX12_init_116 ?_
  refine wb_newaI dX12_init_117 Aint rfl (by decide) rfl rfl hz hn (fun hz hn => ?_)
  refine wb_putR dX12_init_119 FX12_49 WX12_21 (by (repeat refine ob_k (rs := []) ?_); exact ob_r ho) hz (fun hz => ?_)
  refine wa_aload_n dX12_init_122 rfl ?_
  refine wa_bipush dX12_init_123 rfl ?_
  refine wb_newaI dX12_init_125 Aint rfl (by decide) rfl rfl hz hn (fun hz hn => ?_)
  refine wb_putR dX12_init_127 FX12_52 WX12_22 (by (repeat refine ob_k (rs := []) ?_); exact ob_r ho) hz (fun hz => ?_)
  refine wa_aload_n dX12_init_130 rfl ?_
  refine wa_sipush dX12_init_131 rfl ?_
  refine wb_newaI dX12_init_134 Aint rfl (by decide) rfl rfl hz hn (fun hz hn => ?_)
  refine wb_putR dX12_init_136 FX12_55 WX12_23 (by (repeat refine ob_k (rs := []) ?_); exact ob_r ho) hz (fun hz => ?_)
  refine wa_aload_n dX12_init_139 rfl ?_
  refine wa_bipush dX12_init_140 rfl ?_
  refine wb_newaI dX12_init_142 Aint rfl (by decide) rfl rfl hz hn (fun hz hn => ?_)
  refine wb_putR dX12_init_144 FX12_58 WX12_24 (by (repeat refine ob_k (rs := []) ?_); exact ob_r ho) hz (fun hz => ?_)
  refine wa_aload_n dX12_init_147 rfl ?_
  refine wa_sipush dX12_init_148 rfl ?_
  refine wb_newaI dX12_init_151 Aint rfl (by decide) rfl rfl hz hn (fun hz hn => ?_)
  refine wb_putR dX12_init_153 FX12_61 WX12_25 (by (repeat refine ob_k (rs := []) ?_); exact ob_r ho) hz (fun hz => ?_)
  refine wa_aload_n dX12_init_156 rfl ?_
  refine wa_bipush dX12_init_157 rfl ?_
  refine wb_newaI dX12_init_159 Aint rfl (by decide) rfl rfl hz hn (fun hz hn => ?_)
  refine wb_putR dX12_init_161 FX12_64 WX12_26 (by (repeat refine ob_k (rs := []) ?_); exact ob_r ho) hz (fun hz => ?_)
  refine wa_aload_n dX12_init_164 rfl ?_
  refine wa_bipush dX12_init_165 rfl ?_
  refine wb_newaI dX12_init_167 Aint rfl (by decide) rfl rfl hz hn (fun hz hn => ?_)
  refine wb_putR dX12_init_169 FX12_67 WX12_27 (by (repeat refine ob_k (rs := []) ?_); exact ob_r ho) hz (fun hz => ?_)
  refine wa_aload_n dX12_init_172 rfl ?_
  refine wa_iconst dX12_init_173 ?_
  refine wb_newaI dX12_init_174 Aint rfl (by decide) rfl rfl hz hn (fun hz hn => ?_)
  refine wb_putR dX12_init_176 FX12_70 WX12_28 (by (repeat refine ob_k (rs := []) ?_); exact ob_r ho) hz (fun hz => ?_)
  refine wa_aload_n dX12_init_179 rfl ?_
  refine wa_bipush dX12_init_180 rfl ?_
  refine wb_newaI dX12_init_182 Aint rfl (by decide) rfl rfl hz hn (fun hz hn => ?_)
  refine wb_putR dX12_init_184 FX12_73 WX12_29 (by (repeat refine ob_k (rs := []) ?_); exact ob_r ho) hz (fun hz => ?_)
  refine wa_aload_n dX12_init_187 rfl ?_
  refine wa_sipush dX12_init_188 rfl ?_
  refine wb_newaI dX12_init_191 Aint rfl (by decide) rfl rfl hz hn (fun hz hn => ?_)
  refine wb_putR dX12_init_193 FX12_76 WX12_30 (by (repeat refine ob_k (rs := []) ?_); exact ob_r ho) hz (fun hz => ?_)
  refine wa_return dX12_init_196 rfl ?_
  exact iQ.mk (by simp only [xkM, List.append_assoc, List.cons_append, List.nil_append]) (by simp only [xrM, List.append_assoc, List.cons_append, List.nil_append, Nat.add_assoc, Nat.reduceAdd]) hz hn rfl
