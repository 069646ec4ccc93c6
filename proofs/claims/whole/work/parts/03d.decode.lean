theorem dX12_init_123 : decode cX12_init 123 = .ok (.bipush 100, 2) := by decide +kernel
theorem dX12_init_125 : decode cX12_init 125 = .ok (.newarray .int, 2) := by decide +kernel
theorem dX12_init_127 : decode cX12_init 127 = .ok (.putfield 52, 3) := by decide +kernel
theorem dX12_init_130 : decode cX12_init 130 = .ok (.aload_n 0, 1) := by decide +kernel
theorem dX12_init_131 : decode cX12_init 131 = .ok (.sipush 2500, 3) := by decide +kernel
theorem dX12_init_134 : decode cX12_init 134 = .ok (.newarray .int, 2) := by decide +kernel
theorem dX12_init_136 : decode cX12_init 136 = .ok (.putfield 55, 3) := by decide +kernel
theorem dX12_init_139 : decode cX12_init 139 = .ok (.aload_n 0, 1) := by decide +kernel
theorem dX12_init_140 : decode cX12_init 140 = .ok (.bipush 50, 2) := by decide +kernel
theorem dX12_init_142 : decode cX12_init 142 = .ok (.newarray .int, 2) := by decide +kernel
theorem dX12_init_144 : decode cX12_init 144 = .ok (.putfield 58, 3) := by decide +kernel
theorem dX12_init_147 : decode cX12_init 147 = .ok (.aload_n 0, 1) := by decide +kernel
theorem dX12_init_148 : decode cX12_init 148 = .ok (.sipush 6000, 3) := by decide +kernel
theorem dX12_init_151 : decode cX12_init 151 = .ok (.newarray .int, 2) := by decide +kernel
theorem dX12_init_153 : decode cX12_init 153 = .ok (.putfield 61, 3) := by decide +kernel
theorem dX12_init_156 : decode cX12_init 156 = .ok (.aload_n 0, 1) := by decide +kernel
theorem dX12_init_157 : decode cX12_init 157 = .ok (.bipush 6, 2) := by decide +kernel
theorem dX12_init_159 : decode cX12_init 159 = .ok (.newarray .int, 2) := by decide +kernel
theorem dX12_init_161 : decode cX12_init 161 = .ok (.putfield 64, 3) := by decide +kernel
theorem dX12_init_164 : decode cX12_init 164 = .ok (.aload_n 0, 1) := by decide +kernel
theorem dX12_init_165 : decode cX12_init 165 = .ok (.bipush 120, 2) := by decide +kernel
theorem dX12_init_167 : decode cX12_init 167 = .ok (.newarray .int, 2) := by decide +kernel
theorem dX12_init_169 : decode cX12_init 169 = .ok (.putfield 67, 3) := by decide +kernel
theorem dX12_init_172 : decode cX12_init 172 = .ok (.aload_n 0, 1) := by decide +kernel
theorem dX12_init_173 : decode cX12_init 173 = .ok (.iconst 3, 1) := by decide +kernel
theorem dX12_init_174 : decode cX12_init 174 = .ok (.newarray .int, 2) := by decide +kernel
theorem dX12_init_176 : decode cX12_init 176 = .ok (.putfield 70, 3) := by decide +kernel
theorem dX12_init_179 : decode cX12_init 179 = .ok (.aload_n 0, 1) := by decide +kernel
theorem dX12_init_180 : decode cX12_init 180 = .ok (.bipush 50, 2) := by decide +kernel
theorem dX12_init_182 : decode cX12_init 182 = .ok (.newarray .int, 2) := by decide +kernel
theorem dX12_init_184 : decode cX12_init 184 = .ok (.putfield 73, 3) := by decide +kernel
theorem dX12_init_187 : decode cX12_init 187 = .ok (.aload_n 0, 1) := by decide +kernel
theorem dX12_init_188 : decode cX12_init 188 = .ok (.sipush 300, 3) := by decide +kernel
theorem dX12_init_191 : decode cX12_init 191 = .ok (.newarray .int, 2) := by decide +kernel
theorem dX12_init_193 : decode cX12_init 193 = .ok (.putfield 76, 3) := by decide +kernel
theorem dX12_init_196 : decode cX12_init 196 = .ok (.return_, 1) := by decide +kernel
theorem dX12_in_0 : decode cX12_in 0 = .ok (.iload_n 0, 1) := by decide +kernel
theorem dX12_in_1 : decode cX12_in 1 = .ok (.iload_n 1, 1) := by decide +kernel
theorem dX12_in_2 : decode cX12_in 2 = .ok (.if_icmp .lt 12, 3) := by decide +kernel
theorem dX12_in_5 : decode cX12_in 5 = .ok (.iload_n 0, 1) := by decide +kernel
theorem dX12_in_6 : decode cX12_in 6 = .ok (.iload_n 2, 1) := by decide +kernel
theorem dX12_in_7 : decode cX12_in 7 = .ok (.if_icmp .gt 7, 3) := by decide +kernel
theorem dX12_in_10 : decode cX12_in 10 = .ok (.iconst 1, 1) := by decide +kernel
theorem dX12_in_11 : decode cX12_in 11 = .ok (.goto 4, 3) := by decide +kernel
theorem dX12_in_14 : decode cX12_in 14 = .ok (.iconst 0, 1) := by decide +kernel
theorem dX12_in_15 : decode cX12_in 15 = .ok (.ireturn, 1) := by decide +kernel
theorem dX12_refuses_0 : decode cX12_refuses 0 = .ok (.aload_n 0, 1) := by decide +kernel
theorem dX12_refuses_1 : decode cX12_refuses 1 = .ok (.getfield 28, 3) := by decide +kernel
theorem dX12_refuses_4 : decode cX12_refuses 4 = .ok (.bipush (-2), 2) := by decide +kernel
theorem dX12_refuses_6 : decode cX12_refuses 6 = .ok (.iload_n 1, 1) := by decide +kernel
theorem dX12_refuses_7 : decode cX12_refuses 7 = .ok (.isub, 1) := by decide +kernel
theorem dX12_refuses_8 : decode cX12_refuses 8 = .ok (.dup2, 1) := by decide +kernel
theorem dX12_refuses_9 : decode cX12_refuses 9 = .ok (.iaload, 1) := by decide +kernel
theorem dX12_refuses_10 : decode cX12_refuses 10 = .ok (.iconst 1, 1) := by decide +kernel
theorem dX12_refuses_11 : decode cX12_refuses 11 = .ok (.iadd, 1) := by decide +kernel
theorem dX12_refuses_12 : decode cX12_refuses 12 = .ok (.iastore, 1) := by decide +kernel
theorem dX12_refuses_13 : decode cX12_refuses 13 = .ok (.iload_n 1, 1) := by decide +kernel
theorem dX12_refuses_14 : decode cX12_refuses 14 = .ok (.ireturn, 1) := by decide +kernel
theorem dX12_isTerm_0 : decode cX12_isTerm 0 = .ok (.iload_n 1, 1) := by decide +kernel
theorem dX12_isTerm_1 : decode cX12_isTerm 1 = .ok (.iconst 0, 1) := by decide +kernel
theorem dX12_isTerm_2 : decode cX12_isTerm 2 = .ok (.aload_n 0, 1) := by decide +kernel
theorem dX12_isTerm_3 : decode cX12_isTerm 3 = .ok (.getfield 7, 3) := by decide +kernel
theorem dX12_isTerm_6 : decode cX12_isTerm 6 = .ok (.iconst 0, 1) := by decide +kernel
theorem dX12_isTerm_7 : decode cX12_isTerm 7 = .ok (.iaload, 1) := by decide +kernel
theorem dX12_isTerm_8 : decode cX12_isTerm 8 = .ok (.iconst 1, 1) := by decide +kernel
theorem dX12_isTerm_9 : decode cX12_isTerm 9 = .ok (.isub, 1) := by decide +kernel
theorem dX12_isTerm_10 : decode cX12_isTerm 10 = .ok (.invokestatic 79, 3) := by decide +kernel
theorem dX12_isTerm_13 : decode cX12_isTerm 13 = .ok (.ireturn, 1) := by decide +kernel
theorem dX12_isRule_0 : decode cX12_isRule 0 = .ok (.iload_n 1, 1) := by decide +kernel
theorem dX12_isRule_1 : decode cX12_isRule 1 = .ok (.iconst 0, 1) := by decide +kernel
theorem dX12_isRule_2 : decode cX12_isRule 2 = .ok (.aload_n 0, 1) := by decide +kernel
theorem dX12_isRule_3 : decode cX12_isRule 3 = .ok (.getfield 7, 3) := by decide +kernel
theorem dX12_isRule_6 : decode cX12_isRule 6 = .ok (.iconst 1, 1) := by decide +kernel
theorem dX12_isRule_7 : decode cX12_isRule 7 = .ok (.iaload, 1) := by decide +kernel
theorem dX12_isRule_8 : decode cX12_isRule 8 = .ok (.iconst 1, 1) := by decide +kernel
theorem dX12_isRule_9 : decode cX12_isRule 9 = .ok (.isub, 1) := by decide +kernel
theorem dX12_isRule_10 : decode cX12_isRule 10 = .ok (.invokestatic 79, 3) := by decide +kernel
theorem dX12_isRule_13 : decode cX12_isRule 13 = .ok (.ireturn, 1) := by decide +kernel
theorem dX12_arity_0 : decode cX12_arity 0 = .ok (.iload_n 0, 1) := by decide +kernel
theorem dX12_arity_1 : decode cX12_arity 1 = .ok (.iconst 4, 1) := by decide +kernel
theorem dX12_arity_2 : decode cX12_arity 2 = .ok (.if_icmp .lt 9, 3) := by decide +kernel
theorem dX12_arity_5 : decode cX12_arity 5 = .ok (.iload_n 0, 1) := by decide +kernel
theorem dX12_arity_6 : decode cX12_arity 6 = .ok (.bipush 6, 2) := by decide +kernel
theorem dX12_arity_8 : decode cX12_arity 8 = .ok (.if_icmp .le 7, 3) := by decide +kernel
theorem dX12_arity_11 : decode cX12_arity 11 = .ok (.iconst 0, 1) := by decide +kernel
theorem dX12_arity_12 : decode cX12_arity 12 = .ok (.goto 14, 3) := by decide +kernel
theorem dX12_arity_15 : decode cX12_arity 15 = .ok (.iload_n 0, 1) := by decide +kernel
theorem dX12_arity_16 : decode cX12_arity 16 = .ok (.bipush 6, 2) := by decide +kernel
theorem dX12_arity_18 : decode cX12_arity 18 = .ok (.if_icmp .ge 7, 3) := by decide +kernel
theorem dX12_arity_21 : decode cX12_arity 21 = .ok (.iconst 1, 1) := by decide +kernel
theorem dX12_arity_22 : decode cX12_arity 22 = .ok (.goto 4, 3) := by decide +kernel
theorem dX12_arity_25 : decode cX12_arity 25 = .ok (.iconst 2, 1) := by decide +kernel
theorem dX12_arity_26 : decode cX12_arity 26 = .ok (.ireturn, 1) := by decide +kernel
theorem dX12_classOf_0 : decode cX12_classOf 0 = .ok (.aload_n 0, 1) := by decide +kernel
theorem dX12_classOf_1 : decode cX12_classOf 1 = .ok (.getfield 7, 3) := by decide +kernel
theorem dX12_classOf_4 : decode cX12_classOf 4 = .ok (.sipush 202, 3) := by decide +kernel
theorem dX12_classOf_7 : decode cX12_classOf 7 = .ok (.iload_n 1, 1) := by decide +kernel
theorem dX12_classOf_8 : decode cX12_classOf 8 = .ok (.iadd, 1) := by decide +kernel
theorem dX12_classOf_9 : decode cX12_classOf 9 = .ok (.iaload, 1) := by decide +kernel
theorem dX12_classOf_10 : decode cX12_classOf 10 = .ok (.ireturn, 1) := by decide +kernel
theorem dX12_keeps_0 : decode cX12_keeps 0 = .ok (.aload_n 0, 1) := by decide +kernel
theorem dX12_keeps_1 : decode cX12_keeps 1 = .ok (.getfield 83, 3) := by decide +kernel
theorem dX12_keeps_4 : decode cX12_keeps 4 = .ok (.bipush 8, 2) := by decide +kernel
theorem dX12_keeps_6 : decode cX12_keeps 6 = .ok (.if_icmp .ne 44, 3) := by decide +kernel
theorem dX12_keeps_9 : decode cX12_keeps 9 = .ok (.iconst 0, 1) := by decide +kernel
theorem dX12_keeps_10 : decode cX12_keeps 10 = .ok (.istore_n 1, 1) := by decide +kernel
theorem dX12_keeps_11 : decode cX12_keeps 11 = .ok (.iload_n 1, 1) := by decide +kernel
theorem dX12_keeps_12 : decode cX12_keeps 12 = .ok (.sipush 6888, 3) := by decide +kernel
theorem dX12_keeps_15 : decode cX12_keeps 15 = .ok (.if_icmp .ge 25, 3) := by decide +kernel
theorem dX12_keeps_18 : decode cX12_keeps 18 = .ok (.aload_n 0, 1) := by decide +kernel
theorem dX12_keeps_19 : decode cX12_keeps 19 = .ok (.getfield 13, 3) := by decide +kernel
theorem dX12_keeps_22 : decode cX12_keeps 22 = .ok (.iload_n 1, 1) := by decide +kernel
theorem dX12_keeps_23 : decode cX12_keeps 23 = .ok (.aload_n 0, 1) := by decide +kernel
theorem dX12_keeps_24 : decode cX12_keeps 24 = .ok (.getfield 13, 3) := by decide +kernel
theorem dX12_keeps_27 : decode cX12_keeps 27 = .ok (.iload_n 1, 1) := by decide +kernel
theorem dX12_keeps_28 : decode cX12_keeps 28 = .ok (.sipush 984, 3) := by decide +kernel
theorem dX12_keeps_31 : decode cX12_keeps 31 = .ok (.iadd, 1) := by decide +kernel
theorem dX12_keeps_32 : decode cX12_keeps 32 = .ok (.iaload, 1) := by decide +kernel
theorem dX12_keeps_33 : decode cX12_keeps 33 = .ok (.iastore, 1) := by decide +kernel
theorem dX12_keeps_34 : decode cX12_keeps 34 = .ok (.iinc 1 1, 3) := by decide +kernel
theorem dX12_keeps_37 : decode cX12_keeps 37 = .ok (.goto (-26), 3) := by decide +kernel
theorem dX12_keeps_40 : decode cX12_keeps 40 = .ok (.aload_n 0, 1) := by decide +kernel
theorem dX12_keeps_41 : decode cX12_keeps 41 = .ok (.dup, 1) := by decide +kernel
theorem dX12_keeps_42 : decode cX12_keeps 42 = .ok (.getfield 83, 3) := by decide +kernel
theorem dX12_keeps_45 : decode cX12_keeps 45 = .ok (.iconst 1, 1) := by decide +kernel
theorem dX12_keeps_46 : decode cX12_keeps 46 = .ok (.isub, 1) := by decide +kernel
theorem dX12_keeps_47 : decode cX12_keeps 47 = .ok (.putfield 83, 3) := by decide +kernel
theorem dX12_keeps_50 : decode cX12_keeps 50 = .ok (.iconst 0, 1) := by decide +kernel
theorem dX12_keeps_51 : decode cX12_keeps 51 = .ok (.istore_n 1, 1) := by decide +kernel
theorem dX12_keeps_52 : decode cX12_keeps 52 = .ok (.iload_n 1, 1) := by decide +kernel
theorem dX12_keeps_53 : decode cX12_keeps 53 = .ok (.sipush 984, 3) := by decide +kernel
theorem dX12_keeps_56 : decode cX12_keeps 56 = .ok (.if_icmp .ge 30, 3) := by decide +kernel
theorem dX12_keeps_59 : decode cX12_keeps 59 = .ok (.aload_n 0, 1) := by decide +kernel
theorem dX12_keeps_60 : decode cX12_keeps 60 = .ok (.getfield 13, 3) := by decide +kernel
theorem dX12_keeps_63 : decode cX12_keeps 63 = .ok (.sipush 984, 3) := by decide +kernel
theorem dX12_keeps_66 : decode cX12_keeps 66 = .ok (.aload_n 0, 1) := by decide +kernel
theorem dX12_keeps_67 : decode cX12_keeps 67 = .ok (.getfield 83, 3) := by decide +kernel
theorem dX12_keeps_70 : decode cX12_keeps 70 = .ok (.imul, 1) := by decide +kernel
theorem dX12_keeps_71 : decode cX12_keeps 71 = .ok (.iload_n 1, 1) := by decide +kernel
theorem dX12_keeps_72 : decode cX12_keeps 72 = .ok (.iadd, 1) := by decide +kernel
theorem dX12_keeps_73 : decode cX12_keeps 73 = .ok (.aload_n 0, 1) := by decide +kernel
theorem dX12_keeps_74 : decode cX12_keeps 74 = .ok (.getfield 7, 3) := by decide +kernel
theorem dX12_keeps_77 : decode cX12_keeps 77 = .ok (.iload_n 1, 1) := by decide +kernel
theorem dX12_keeps_78 : decode cX12_keeps 78 = .ok (.iaload, 1) := by decide +kernel
theorem dX12_keeps_79 : decode cX12_keeps 79 = .ok (.iastore, 1) := by decide +kernel
theorem dX12_keeps_80 : decode cX12_keeps 80 = .ok (.iinc 1 1, 3) := by decide +kernel
theorem dX12_keeps_83 : decode cX12_keeps 83 = .ok (.goto (-31), 3) := by decide +kernel
theorem dX12_keeps_86 : decode cX12_keeps 86 = .ok (.aload_n 0, 1) := by decide +kernel
theorem dX12_keeps_87 : decode cX12_keeps 87 = .ok (.dup, 1) := by decide +kernel
theorem dX12_keeps_88 : decode cX12_keeps 88 = .ok (.getfield 83, 3) := by decide +kernel
theorem dX12_keeps_91 : decode cX12_keeps 91 = .ok (.iconst 1, 1) := by decide +kernel
theorem dX12_keeps_92 : decode cX12_keeps 92 = .ok (.iadd, 1) := by decide +kernel
theorem dX12_keeps_93 : decode cX12_keeps 93 = .ok (.putfield 83, 3) := by decide +kernel
theorem dX12_keeps_96 : decode cX12_keeps 96 = .ok (.return_, 1) := by decide +kernel
theorem dX12_termOf_0 : decode cX12_termOf 0 = .ok (.iconst 0, 1) := by decide +kernel
theorem dX12_termOf_1 : decode cX12_termOf 1 = .ok (.istore 4, 2) := by decide +kernel
theorem dX12_termOf_3 : decode cX12_termOf 3 = .ok (.iload 4, 2) := by decide +kernel
theorem dX12_termOf_5 : decode cX12_termOf 5 = .ok (.aload_n 0, 1) := by decide +kernel
theorem dX12_termOf_6 : decode cX12_termOf 6 = .ok (.getfield 7, 3) := by decide +kernel
theorem dX12_termOf_9 : decode cX12_termOf 9 = .ok (.iconst 0, 1) := by decide +kernel
theorem dX12_termOf_10 : decode cX12_termOf 10 = .ok (.iaload, 1) := by decide +kernel
theorem dX12_termOf_11 : decode cX12_termOf 11 = .ok (.if_icmp .ge 53, 3) := by decide +kernel
theorem dX12_termOf_14 : decode cX12_termOf 14 = .ok (.aload_n 0, 1) := by decide +kernel
theorem dX12_termOf_15 : decode cX12_termOf 15 = .ok (.getfield 7, 3) := by decide +kernel
theorem dX12_termOf_18 : decode cX12_termOf 18 = .ok (.iconst 2, 1) := by decide +kernel
theorem dX12_termOf_19 : decode cX12_termOf 19 = .ok (.iload 4, 2) := by decide +kernel
theorem dX12_termOf_21 : decode cX12_termOf 21 = .ok (.iadd, 1) := by decide +kernel
theorem dX12_termOf_22 : decode cX12_termOf 22 = .ok (.iaload, 1) := by decide +kernel
theorem dX12_termOf_23 : decode cX12_termOf 23 = .ok (.iload_n 1, 1) := by decide +kernel
theorem dX12_termOf_24 : decode cX12_termOf 24 = .ok (.if_icmp .ne 34, 3) := by decide +kernel
theorem dX12_termOf_27 : decode cX12_termOf 27 = .ok (.aload_n 0, 1) := by decide +kernel
theorem dX12_termOf_28 : decode cX12_termOf 28 = .ok (.getfield 7, 3) := by decide +kernel
theorem dX12_termOf_31 : decode cX12_termOf 31 = .ok (.bipush 52, 2) := by decide +kernel
theorem dX12_termOf_33 : decode cX12_termOf 33 = .ok (.iload 4, 2) := by decide +kernel
theorem dX12_termOf_35 : decode cX12_termOf 35 = .ok (.iadd, 1) := by decide +kernel
theorem dX12_termOf_36 : decode cX12_termOf 36 = .ok (.iaload, 1) := by decide +kernel
theorem dX12_termOf_37 : decode cX12_termOf 37 = .ok (.iload_n 2, 1) := by decide +kernel
theorem dX12_termOf_38 : decode cX12_termOf 38 = .ok (.if_icmp .ne 20, 3) := by decide +kernel
theorem dX12_termOf_41 : decode cX12_termOf 41 = .ok (.aload_n 0, 1) := by decide +kernel
theorem dX12_termOf_42 : decode cX12_termOf 42 = .ok (.getfield 7, 3) := by decide +kernel
theorem dX12_termOf_45 : decode cX12_termOf 45 = .ok (.bipush 102, 2) := by decide +kernel
theorem dX12_termOf_47 : decode cX12_termOf 47 = .ok (.iload 4, 2) := by decide +kernel
theorem dX12_termOf_49 : decode cX12_termOf 49 = .ok (.iadd, 1) := by decide +kernel
theorem dX12_termOf_50 : decode cX12_termOf 50 = .ok (.iaload, 1) := by decide +kernel
theorem dX12_termOf_51 : decode cX12_termOf 51 = .ok (.iload_n 3, 1) := by decide +kernel
theorem dX12_termOf_52 : decode cX12_termOf 52 = .ok (.if_icmp .ne 6, 3) := by decide +kernel
theorem dX12_termOf_55 : decode cX12_termOf 55 = .ok (.iload 4, 2) := by decide +kernel
theorem dX12_termOf_57 : decode cX12_termOf 57 = .ok (.ireturn, 1) := by decide +kernel
theorem dX12_termOf_58 : decode cX12_termOf 58 = .ok (.iinc 4 1, 3) := by decide +kernel
theorem dX12_termOf_61 : decode cX12_termOf 61 = .ok (.goto (-58), 3) := by decide +kernel
theorem dX12_termOf_64 : decode cX12_termOf 64 = .ok (.iconst (-1), 1) := by decide +kernel
theorem dX12_termOf_65 : decode cX12_termOf 65 = .ok (.ireturn, 1) := by decide +kernel
theorem dX12_comes_0 : decode cX12_comes 0 = .ok (.aload_n 0, 1) := by decide +kernel
theorem dX12_comes_1 : decode cX12_comes 1 = .ok (.iload_n 1, 1) := by decide +kernel
theorem dX12_comes_2 : decode cX12_comes 2 = .ok (.iload_n 2, 1) := by decide +kernel
theorem dX12_comes_3 : decode cX12_comes 3 = .ok (.iload_n 3, 1) := by decide +kernel
theorem dX12_comes_4 : decode cX12_comes 4 = .ok (.invokevirtual 87, 3) := by decide +kernel
theorem dX12_comes_7 : decode cX12_comes 7 = .ok (.istore 5, 2) := by decide +kernel
theorem dX12_comes_9 : decode cX12_comes 9 = .ok (.iload 5, 2) := by decide +kernel
theorem dX12_comes_11 : decode cX12_comes 11 = .ok (.ifCond .lt 6, 3) := by decide +kernel
theorem dX12_comes_14 : decode cX12_comes 14 = .ok (.iload 5, 2) := by decide +kernel
theorem dX12_comes_16 : decode cX12_comes 16 = .ok (.ireturn, 1) := by decide +kernel
theorem dX12_comes_17 : decode cX12_comes 17 = .ok (.aload_n 0, 1) := by decide +kernel
theorem dX12_comes_18 : decode cX12_comes 18 = .ok (.getfield 7, 3) := by decide +kernel
theorem dX12_comes_21 : decode cX12_comes 21 = .ok (.iconst 0, 1) := by decide +kernel
theorem dX12_comes_22 : decode cX12_comes 22 = .ok (.iaload, 1) := by decide +kernel
theorem dX12_comes_23 : decode cX12_comes 23 = .ok (.bipush 50, 2) := by decide +kernel
theorem dX12_comes_25 : decode cX12_comes 25 = .ok (.if_icmp .ne 10, 3) := by decide +kernel
theorem dX12_comes_28 : decode cX12_comes 28 = .ok (.aload_n 0, 1) := by decide +kernel
theorem dX12_comes_29 : decode cX12_comes 29 = .ok (.iconst 1, 1) := by decide +kernel
theorem dX12_comes_30 : decode cX12_comes 30 = .ok (.putfield 91, 3) := by decide +kernel
theorem dX12_comes_33 : decode cX12_comes 33 = .ok (.iconst 0, 1) := by decide +kernel
theorem dX12_comes_34 : decode cX12_comes 34 = .ok (.ireturn, 1) := by decide +kernel
theorem dX12_comes_35 : decode cX12_comes 35 = .ok (.aload_n 0, 1) := by decide +kernel
theorem dX12_comes_36 : decode cX12_comes 36 = .ok (.getfield 7, 3) := by decide +kernel
theorem dX12_comes_39 : decode cX12_comes 39 = .ok (.iconst 0, 1) := by decide +kernel
theorem dX12_comes_40 : decode cX12_comes 40 = .ok (.iaload, 1) := by decide +kernel
theorem dX12_comes_41 : decode cX12_comes 41 = .ok (.istore 5, 2) := by decide +kernel
theorem dX12_comes_43 : decode cX12_comes 43 = .ok (.aload_n 0, 1) := by decide +kernel
theorem dX12_comes_44 : decode cX12_comes 44 = .ok (.getfield 7, 3) := by decide +kernel
theorem dX12_comes_47 : decode cX12_comes 47 = .ok (.iconst 2, 1) := by decide +kernel
theorem dX12_comes_48 : decode cX12_comes 48 = .ok (.iload 5, 2) := by decide +kernel
theorem dX12_comes_50 : decode cX12_comes 50 = .ok (.iadd, 1) := by decide +kernel
theorem dX12_comes_51 : decode cX12_comes 51 = .ok (.iload_n 1, 1) := by decide +kernel
theorem dX12_comes_52 : decode cX12_comes 52 = .ok (.iastore, 1) := by decide +kernel
theorem dX12_comes_53 : decode cX12_comes 53 = .ok (.aload_n 0, 1) := by decide +kernel
theorem dX12_comes_54 : decode cX12_comes 54 = .ok (.getfield 7, 3) := by decide +kernel
theorem dX12_comes_57 : decode cX12_comes 57 = .ok (.bipush 52, 2) := by decide +kernel
theorem dX12_comes_59 : decode cX12_comes 59 = .ok (.iload 5, 2) := by decide +kernel
theorem dX12_comes_61 : decode cX12_comes 61 = .ok (.iadd, 1) := by decide +kernel
theorem dX12_comes_62 : decode cX12_comes 62 = .ok (.iload_n 2, 1) := by decide +kernel
theorem dX12_comes_63 : decode cX12_comes 63 = .ok (.iastore, 1) := by decide +kernel
theorem dX12_comes_64 : decode cX12_comes 64 = .ok (.aload_n 0, 1) := by decide +kernel
theorem dX12_comes_65 : decode cX12_comes 65 = .ok (.getfield 7, 3) := by decide +kernel
theorem dX12_comes_68 : decode cX12_comes 68 = .ok (.bipush 102, 2) := by decide +kernel
theorem dX12_comes_70 : decode cX12_comes 70 = .ok (.iload 5, 2) := by decide +kernel
theorem dX12_comes_72 : decode cX12_comes 72 = .ok (.iadd, 1) := by decide +kernel
theorem dX12_comes_73 : decode cX12_comes 73 = .ok (.iload_n 3, 1) := by decide +kernel
theorem dX12_comes_74 : decode cX12_comes 74 = .ok (.iastore, 1) := by decide +kernel
theorem dX12_comes_75 : decode cX12_comes 75 = .ok (.aload_n 0, 1) := by decide +kernel
theorem dX12_comes_76 : decode cX12_comes 76 = .ok (.getfield 7, 3) := by decide +kernel
theorem dX12_comes_79 : decode cX12_comes 79 = .ok (.sipush 152, 3) := by decide +kernel
theorem dX12_comes_82 : decode cX12_comes 82 = .ok (.iload 5, 2) := by decide +kernel
theorem dX12_comes_84 : decode cX12_comes 84 = .ok (.iadd, 1) := by decide +kernel
theorem dX12_comes_85 : decode cX12_comes 85 = .ok (.iload 4, 2) := by decide +kernel
theorem dX12_comes_87 : decode cX12_comes 87 = .ok (.iastore, 1) := by decide +kernel
theorem dX12_comes_88 : decode cX12_comes 88 = .ok (.aload_n 0, 1) := by decide +kernel
theorem dX12_comes_89 : decode cX12_comes 89 = .ok (.getfield 7, 3) := by decide +kernel
theorem dX12_comes_92 : decode cX12_comes 92 = .ok (.sipush 202, 3) := by decide +kernel
theorem dX12_comes_95 : decode cX12_comes 95 = .ok (.iload 5, 2) := by decide +kernel
theorem dX12_comes_97 : decode cX12_comes 97 = .ok (.iadd, 1) := by decide +kernel
theorem dX12_comes_98 : decode cX12_comes 98 = .ok (.iload 5, 2) := by decide +kernel
theorem dX12_comes_100 : decode cX12_comes 100 = .ok (.iastore, 1) := by decide +kernel
theorem dX12_comes_101 : decode cX12_comes 101 = .ok (.aload_n 0, 1) := by decide +kernel
theorem dX12_comes_102 : decode cX12_comes 102 = .ok (.getfield 7, 3) := by decide +kernel
theorem dX12_comes_105 : decode cX12_comes 105 = .ok (.iconst 0, 1) := by decide +kernel
theorem dX12_comes_106 : decode cX12_comes 106 = .ok (.dup2, 1) := by decide +kernel
theorem dX12_comes_107 : decode cX12_comes 107 = .ok (.iaload, 1) := by decide +kernel
theorem dX12_comes_108 : decode cX12_comes 108 = .ok (.iconst 1, 1) := by decide +kernel
theorem dX12_comes_109 : decode cX12_comes 109 = .ok (.iadd, 1) := by decide +kernel
theorem dX12_comes_110 : decode cX12_comes 110 = .ok (.iastore, 1) := by decide +kernel
theorem dX12_comes_111 : decode cX12_comes 111 = .ok (.iload 5, 2) := by decide +kernel
theorem dX12_comes_113 : decode cX12_comes 113 = .ok (.ireturn, 1) := by decide +kernel
theorem dX12_joins_0 : decode cX12_joins 0 = .ok (.aload_n 0, 1) := by decide +kernel
theorem dX12_joins_1 : decode cX12_joins 1 = .ok (.iload_n 1, 1) := by decide +kernel
theorem dX12_joins_2 : decode cX12_joins 2 = .ok (.invokevirtual 95, 3) := by decide +kernel
theorem dX12_joins_5 : decode cX12_joins 5 = .ok (.istore_n 3, 1) := by decide +kernel
theorem dX12_joins_6 : decode cX12_joins 6 = .ok (.aload_n 0, 1) := by decide +kernel
theorem dX12_joins_7 : decode cX12_joins 7 = .ok (.iload_n 2, 1) := by decide +kernel
theorem dX12_joins_8 : decode cX12_joins 8 = .ok (.invokevirtual 95, 3) := by decide +kernel
theorem dX12_joins_11 : decode cX12_joins 11 = .ok (.istore 4, 2) := by decide +kernel
theorem dX12_joins_13 : decode cX12_joins 13 = .ok (.iload_n 3, 1) := by decide +kernel
theorem dX12_joins_14 : decode cX12_joins 14 = .ok (.iload 4, 2) := by decide +kernel
theorem dX12_joins_16 : decode cX12_joins 16 = .ok (.if_icmp .ge 7, 3) := by decide +kernel
theorem dX12_joins_19 : decode cX12_joins 19 = .ok (.iload_n 3, 1) := by decide +kernel
theorem dX12_joins_20 : decode cX12_joins 20 = .ok (.goto 5, 3) := by decide +kernel
theorem dX12_joins_23 : decode cX12_joins 23 = .ok (.iload 4, 2) := by decide +kernel
theorem dX12_joins_25 : decode cX12_joins 25 = .ok (.istore 5, 2) := by decide +kernel
theorem dX12_joins_27 : decode cX12_joins 27 = .ok (.iload_n 3, 1) := by decide +kernel
theorem dX12_joins_28 : decode cX12_joins 28 = .ok (.iload 4, 2) := by decide +kernel
theorem dX12_joins_30 : decode cX12_joins 30 = .ok (.if_icmp .ge 8, 3) := by decide +kernel
theorem dX12_joins_33 : decode cX12_joins 33 = .ok (.iload 4, 2) := by decide +kernel
theorem dX12_joins_35 : decode cX12_joins 35 = .ok (.goto 4, 3) := by decide +kernel
theorem dX12_joins_38 : decode cX12_joins 38 = .ok (.iload_n 3, 1) := by decide +kernel
theorem dX12_joins_39 : decode cX12_joins 39 = .ok (.istore 6, 2) := by decide +kernel
theorem dX12_joins_41 : decode cX12_joins 41 = .ok (.iconst 0, 1) := by decide +kernel
theorem dX12_joins_42 : decode cX12_joins 42 = .ok (.istore 7, 2) := by decide +kernel
theorem dX12_joins_44 : decode cX12_joins 44 = .ok (.iload 7, 2) := by decide +kernel
theorem dX12_joins_46 : decode cX12_joins 46 = .ok (.aload_n 0, 1) := by decide +kernel
theorem dX12_joins_47 : decode cX12_joins 47 = .ok (.getfield 7, 3) := by decide +kernel
theorem dX12_joins_50 : decode cX12_joins 50 = .ok (.iconst 0, 1) := by decide +kernel
theorem dX12_joins_51 : decode cX12_joins 51 = .ok (.iaload, 1) := by decide +kernel
theorem dX12_joins_52 : decode cX12_joins 52 = .ok (.if_icmp .ge 52, 3) := by decide +kernel
theorem dX12_joins_55 : decode cX12_joins 55 = .ok (.aload_n 0, 1) := by decide +kernel
theorem dX12_joins_56 : decode cX12_joins 56 = .ok (.getfield 7, 3) := by decide +kernel
theorem dX12_joins_59 : decode cX12_joins 59 = .ok (.sipush 202, 3) := by decide +kernel
theorem dX12_joins_62 : decode cX12_joins 62 = .ok (.iload 7, 2) := by decide +kernel
theorem dX12_joins_64 : decode cX12_joins 64 = .ok (.iadd, 1) := by decide +kernel
theorem dX12_joins_65 : decode cX12_joins 65 = .ok (.aload_n 0, 1) := by decide +kernel
theorem dX12_joins_66 : decode cX12_joins 66 = .ok (.getfield 7, 3) := by decide +kernel
theorem dX12_joins_69 : decode cX12_joins 69 = .ok (.sipush 202, 3) := by decide +kernel
theorem dX12_joins_72 : decode cX12_joins 72 = .ok (.iload 7, 2) := by decide +kernel
theorem dX12_joins_74 : decode cX12_joins 74 = .ok (.iadd, 1) := by decide +kernel
theorem dX12_joins_75 : decode cX12_joins 75 = .ok (.iaload, 1) := by decide +kernel
theorem dX12_joins_76 : decode cX12_joins 76 = .ok (.iload 6, 2) := by decide +kernel
theorem dX12_joins_78 : decode cX12_joins 78 = .ok (.if_icmp .ne 8, 3) := by decide +kernel
theorem dX12_joins_81 : decode cX12_joins 81 = .ok (.iload 5, 2) := by decide +kernel
theorem dX12_joins_83 : decode cX12_joins 83 = .ok (.goto 14, 3) := by decide +kernel
theorem dX12_joins_86 : decode cX12_joins 86 = .ok (.aload_n 0, 1) := by decide +kernel
theorem dX12_joins_87 : decode cX12_joins 87 = .ok (.getfield 7, 3) := by decide +kernel
theorem dX12_joins_90 : decode cX12_joins 90 = .ok (.sipush 202, 3) := by decide +kernel
theorem dX12_joins_93 : decode cX12_joins 93 = .ok (.iload 7, 2) := by decide +kernel
theorem dX12_joins_95 : decode cX12_joins 95 = .ok (.iadd, 1) := by decide +kernel
theorem dX12_joins_96 : decode cX12_joins 96 = .ok (.iaload, 1) := by decide +kernel
theorem dX12_joins_97 : decode cX12_joins 97 = .ok (.iastore, 1) := by decide +kernel
theorem dX12_joins_98 : decode cX12_joins 98 = .ok (.iinc 7 1, 3) := by decide +kernel
theorem dX12_joins_101 : decode cX12_joins 101 = .ok (.goto (-57), 3) := by decide +kernel
theorem dX12_joins_104 : decode cX12_joins 104 = .ok (.iload_n 3, 1) := by decide +kernel
theorem dX12_joins_105 : decode cX12_joins 105 = .ok (.iload 4, 2) := by decide +kernel
theorem dX12_joins_107 : decode cX12_joins 107 = .ok (.if_icmp .eq 7, 3) := by decide +kernel
theorem dX12_joins_110 : decode cX12_joins 110 = .ok (.iconst 1, 1) := by decide +kernel
theorem dX12_joins_111 : decode cX12_joins 111 = .ok (.goto 4, 3) := by decide +kernel
theorem dX12_joins_114 : decode cX12_joins 114 = .ok (.iconst 0, 1) := by decide +kernel
theorem dX12_joins_115 : decode cX12_joins 115 = .ok (.ireturn, 1) := by decide +kernel
theorem dX12_isPart_0 : decode cX12_isPart 0 = .ok (.iload_n 1, 1) := by decide +kernel
theorem dX12_isPart_1 : decode cX12_isPart 1 = .ok (.ifCond .ge 15, 3) := by decide +kernel
theorem dX12_isPart_4 : decode cX12_isPart 4 = .ok (.iload_n 2, 1) := by decide +kernel
theorem dX12_isPart_5 : decode cX12_isPart 5 = .ok (.ifCond .ge 7, 3) := by decide +kernel
theorem dX12_isPart_8 : decode cX12_isPart 8 = .ok (.iconst 1, 1) := by decide +kernel
theorem dX12_isPart_9 : decode cX12_isPart 9 = .ok (.goto 29, 3) := by decide +kernel
theorem dX12_isPart_12 : decode cX12_isPart 12 = .ok (.iconst 0, 1) := by decide +kernel
theorem dX12_isPart_13 : decode cX12_isPart 13 = .ok (.goto 25, 3) := by decide +kernel
theorem dX12_isPart_16 : decode cX12_isPart 16 = .ok (.iload_n 2, 1) := by decide +kernel
theorem dX12_isPart_17 : decode cX12_isPart 17 = .ok (.ifCond .lt 20, 3) := by decide +kernel
theorem dX12_isPart_20 : decode cX12_isPart 20 = .ok (.aload_n 0, 1) := by decide +kernel
theorem dX12_isPart_21 : decode cX12_isPart 21 = .ok (.iload_n 1, 1) := by decide +kernel
theorem dX12_isPart_22 : decode cX12_isPart 22 = .ok (.invokevirtual 95, 3) := by decide +kernel
theorem dX12_isPart_25 : decode cX12_isPart 25 = .ok (.aload_n 0, 1) := by decide +kernel
theorem dX12_isPart_26 : decode cX12_isPart 26 = .ok (.iload_n 2, 1) := by decide +kernel
theorem dX12_isPart_27 : decode cX12_isPart 27 = .ok (.invokevirtual 95, 3) := by decide +kernel
theorem dX12_isPart_30 : decode cX12_isPart 30 = .ok (.if_icmp .ne 7, 3) := by decide +kernel
theorem dX12_isPart_33 : decode cX12_isPart 33 = .ok (.iconst 1, 1) := by decide +kernel
theorem dX12_isPart_34 : decode cX12_isPart 34 = .ok (.goto 4, 3) := by decide +kernel
theorem dX12_isPart_37 : decode cX12_isPart 37 = .ok (.iconst 0, 1) := by decide +kernel
theorem dX12_isPart_38 : decode cX12_isPart 38 = .ok (.ireturn, 1) := by decide +kernel
theorem dX12_closes_0 : decode cX12_closes 0 = .ok (.iconst 1, 1) := by decide +kernel
theorem dX12_closes_1 : decode cX12_closes 1 = .ok (.istore_n 1, 1) := by decide +kernel
theorem dX12_closes_2 : decode cX12_closes 2 = .ok (.iload_n 1, 1) := by decide +kernel
theorem dX12_closes_3 : decode cX12_closes 3 = .ok (.ifCond .eq 135, 3) := by decide +kernel
theorem dX12_closes_6 : decode cX12_closes 6 = .ok (.iconst 0, 1) := by decide +kernel
theorem dX12_closes_7 : decode cX12_closes 7 = .ok (.istore_n 1, 1) := by decide +kernel
theorem dX12_closes_8 : decode cX12_closes 8 = .ok (.iconst 0, 1) := by decide +kernel
theorem dX12_closes_9 : decode cX12_closes 9 = .ok (.istore_n 2, 1) := by decide +kernel
theorem dX12_closes_10 : decode cX12_closes 10 = .ok (.iload_n 2, 1) := by decide +kernel
theorem dX12_closes_11 : decode cX12_closes 11 = .ok (.aload_n 0, 1) := by decide +kernel
theorem dX12_closes_12 : decode cX12_closes 12 = .ok (.getfield 7, 3) := by decide +kernel
theorem dX12_closes_15 : decode cX12_closes 15 = .ok (.iconst 0, 1) := by decide +kernel
theorem dX12_closes_16 : decode cX12_closes 16 = .ok (.iaload, 1) := by decide +kernel
theorem dX12_closes_17 : decode cX12_closes 17 = .ok (.if_icmp .ge 118, 3) := by decide +kernel
theorem dX12_closes_20 : decode cX12_closes 20 = .ok (.iload_n 2, 1) := by decide +kernel
theorem dX12_closes_21 : decode cX12_closes 21 = .ok (.iconst 1, 1) := by decide +kernel
theorem dX12_closes_22 : decode cX12_closes 22 = .ok (.iadd, 1) := by decide +kernel
theorem dX12_closes_23 : decode cX12_closes 23 = .ok (.istore_n 3, 1) := by decide +kernel
theorem dX12_closes_24 : decode cX12_closes 24 = .ok (.iload_n 3, 1) := by decide +kernel
theorem dX12_closes_25 : decode cX12_closes 25 = .ok (.aload_n 0, 1) := by decide +kernel
theorem dX12_closes_26 : decode cX12_closes 26 = .ok (.getfield 7, 3) := by decide +kernel
theorem dX12_closes_29 : decode cX12_closes 29 = .ok (.iconst 0, 1) := by decide +kernel
theorem dX12_closes_30 : decode cX12_closes 30 = .ok (.iaload, 1) := by decide +kernel
theorem dX12_closes_31 : decode cX12_closes 31 = .ok (.if_icmp .ge 98, 3) := by decide +kernel
theorem dX12_closes_34 : decode cX12_closes 34 = .ok (.aload_n 0, 1) := by decide +kernel
theorem dX12_closes_35 : decode cX12_closes 35 = .ok (.getfield 7, 3) := by decide +kernel
theorem dX12_closes_38 : decode cX12_closes 38 = .ok (.iconst 2, 1) := by decide +kernel
theorem dX12_closes_39 : decode cX12_closes 39 = .ok (.iload_n 2, 1) := by decide +kernel
theorem dX12_closes_40 : decode cX12_closes 40 = .ok (.iadd, 1) := by decide +kernel
theorem dX12_closes_41 : decode cX12_closes 41 = .ok (.iaload, 1) := by decide +kernel
theorem dX12_closes_42 : decode cX12_closes 42 = .ok (.aload_n 0, 1) := by decide +kernel
theorem dX12_closes_43 : decode cX12_closes 43 = .ok (.getfield 7, 3) := by decide +kernel
theorem dX12_closes_46 : decode cX12_closes 46 = .ok (.iconst 2, 1) := by decide +kernel
theorem dX12_closes_47 : decode cX12_closes 47 = .ok (.iload_n 3, 1) := by decide +kernel
theorem dX12_closes_48 : decode cX12_closes 48 = .ok (.iadd, 1) := by decide +kernel
theorem dX12_closes_49 : decode cX12_closes 49 = .ok (.iaload, 1) := by decide +kernel
theorem dX12_closes_50 : decode cX12_closes 50 = .ok (.if_icmp .ne 73, 3) := by decide +kernel
theorem dX12_closes_53 : decode cX12_closes 53 = .ok (.aload_n 0, 1) := by decide +kernel
theorem dX12_closes_54 : decode cX12_closes 54 = .ok (.iload_n 2, 1) := by decide +kernel
theorem dX12_closes_55 : decode cX12_closes 55 = .ok (.invokevirtual 95, 3) := by decide +kernel
theorem dX12_closes_58 : decode cX12_closes 58 = .ok (.aload_n 0, 1) := by decide +kernel
theorem dX12_closes_59 : decode cX12_closes 59 = .ok (.iload_n 3, 1) := by decide +kernel
theorem dX12_closes_60 : decode cX12_closes 60 = .ok (.invokevirtual 95, 3) := by decide +kernel
theorem dX12_closes_63 : decode cX12_closes 63 = .ok (.if_icmp .eq 60, 3) := by decide +kernel
theorem dX12_closes_66 : decode cX12_closes 66 = .ok (.aload_n 0, 1) := by decide +kernel
theorem dX12_closes_67 : decode cX12_closes 67 = .ok (.aload_n 0, 1) := by decide +kernel
theorem dX12_closes_68 : decode cX12_closes 68 = .ok (.getfield 7, 3) := by decide +kernel
theorem dX12_closes_71 : decode cX12_closes 71 = .ok (.bipush 52, 2) := by decide +kernel
theorem dX12_closes_73 : decode cX12_closes 73 = .ok (.iload_n 2, 1) := by decide +kernel
theorem dX12_closes_74 : decode cX12_closes 74 = .ok (.iadd, 1) := by decide +kernel
theorem dX12_closes_75 : decode cX12_closes 75 = .ok (.iaload, 1) := by decide +kernel
theorem dX12_closes_76 : decode cX12_closes 76 = .ok (.aload_n 0, 1) := by decide +kernel
theorem dX12_closes_77 : decode cX12_closes 77 = .ok (.getfield 7, 3) := by decide +kernel
theorem dX12_closes_80 : decode cX12_closes 80 = .ok (.bipush 52, 2) := by decide +kernel
theorem dX12_closes_82 : decode cX12_closes 82 = .ok (.iload_n 3, 1) := by decide +kernel
theorem dX12_closes_83 : decode cX12_closes 83 = .ok (.iadd, 1) := by decide +kernel
theorem dX12_closes_84 : decode cX12_closes 84 = .ok (.iaload, 1) := by decide +kernel
theorem dX12_closes_85 : decode cX12_closes 85 = .ok (.invokevirtual 99, 3) := by decide +kernel
theorem dX12_closes_88 : decode cX12_closes 88 = .ok (.ifCond .eq 35, 3) := by decide +kernel
theorem dX12_closes_91 : decode cX12_closes 91 = .ok (.aload_n 0, 1) := by decide +kernel
theorem dX12_closes_92 : decode cX12_closes 92 = .ok (.aload_n 0, 1) := by decide +kernel
theorem dX12_closes_93 : decode cX12_closes 93 = .ok (.getfield 7, 3) := by decide +kernel
theorem dX12_closes_96 : decode cX12_closes 96 = .ok (.bipush 102, 2) := by decide +kernel
theorem dX12_closes_98 : decode cX12_closes 98 = .ok (.iload_n 2, 1) := by decide +kernel
theorem dX12_closes_99 : decode cX12_closes 99 = .ok (.iadd, 1) := by decide +kernel
theorem dX12_closes_100 : decode cX12_closes 100 = .ok (.iaload, 1) := by decide +kernel
theorem dX12_closes_101 : decode cX12_closes 101 = .ok (.aload_n 0, 1) := by decide +kernel
theorem dX12_closes_102 : decode cX12_closes 102 = .ok (.getfield 7, 3) := by decide +kernel
theorem dX12_closes_105 : decode cX12_closes 105 = .ok (.bipush 102, 2) := by decide +kernel
theorem dX12_closes_107 : decode cX12_closes 107 = .ok (.iload_n 3, 1) := by decide +kernel
theorem dX12_closes_108 : decode cX12_closes 108 = .ok (.iadd, 1) := by decide +kernel
theorem dX12_closes_109 : decode cX12_closes 109 = .ok (.iaload, 1) := by decide +kernel
theorem dX12_closes_110 : decode cX12_closes 110 = .ok (.invokevirtual 99, 3) := by decide +kernel
theorem dX12_closes_113 : decode cX12_closes 113 = .ok (.ifCond .eq 10, 3) := by decide +kernel
theorem dX12_closes_116 : decode cX12_closes 116 = .ok (.aload_n 0, 1) := by decide +kernel
theorem dX12_closes_117 : decode cX12_closes 117 = .ok (.iload_n 2, 1) := by decide +kernel
theorem dX12_closes_118 : decode cX12_closes 118 = .ok (.iload_n 3, 1) := by decide +kernel
theorem dX12_closes_119 : decode cX12_closes 119 = .ok (.invokevirtual 103, 3) := by decide +kernel
theorem dX12_closes_122 : decode cX12_closes 122 = .ok (.istore_n 1, 1) := by decide +kernel
theorem dX12_closes_123 : decode cX12_closes 123 = .ok (.iinc 3 1, 3) := by decide +kernel
theorem dX12_closes_126 : decode cX12_closes 126 = .ok (.goto (-102), 3) := by decide +kernel
theorem dX12_closes_129 : decode cX12_closes 129 = .ok (.iinc 2 1, 3) := by decide +kernel
theorem dX12_closes_132 : decode cX12_closes 132 = .ok (.goto (-122), 3) := by decide +kernel
theorem dX12_closes_135 : decode cX12_closes 135 = .ok (.goto (-133), 3) := by decide +kernel
theorem dX12_closes_138 : decode cX12_closes 138 = .ok (.return_, 1) := by decide +kernel
theorem dX12_classesOf_0 : decode cX12_classesOf 0 = .ok (.iconst 0, 1) := by decide +kernel
theorem dX12_classesOf_1 : decode cX12_classesOf 1 = .ok (.istore_n 2, 1) := by decide +kernel
theorem dX12_classesOf_2 : decode cX12_classesOf 2 = .ok (.iconst 0, 1) := by decide +kernel
theorem dX12_classesOf_3 : decode cX12_classesOf 3 = .ok (.istore_n 3, 1) := by decide +kernel
theorem dX12_classesOf_4 : decode cX12_classesOf 4 = .ok (.iload_n 3, 1) := by decide +kernel
theorem dX12_classesOf_5 : decode cX12_classesOf 5 = .ok (.iload_n 1, 1) := by decide +kernel
theorem dX12_classesOf_6 : decode cX12_classesOf 6 = .ok (.if_icmp .ge 26, 3) := by decide +kernel
theorem dX12_classesOf_9 : decode cX12_classesOf 9 = .ok (.iload_n 2, 1) := by decide +kernel
theorem dX12_classesOf_10 : decode cX12_classesOf 10 = .ok (.aload_n 0, 1) := by decide +kernel
theorem dX12_classesOf_11 : decode cX12_classesOf 11 = .ok (.iload_n 3, 1) := by decide +kernel
theorem dX12_classesOf_12 : decode cX12_classesOf 12 = .ok (.invokevirtual 95, 3) := by decide +kernel
theorem dX12_classesOf_15 : decode cX12_classesOf 15 = .ok (.iload_n 3, 1) := by decide +kernel
theorem dX12_classesOf_16 : decode cX12_classesOf 16 = .ok (.if_icmp .ne 7, 3) := by decide +kernel
theorem dX12_classesOf_19 : decode cX12_classesOf 19 = .ok (.iconst 1, 1) := by decide +kernel
theorem dX12_classesOf_20 : decode cX12_classesOf 20 = .ok (.goto 4, 3) := by decide +kernel
theorem dX12_classesOf_23 : decode cX12_classesOf 23 = .ok (.iconst 0, 1) := by decide +kernel
theorem dX12_classesOf_24 : decode cX12_classesOf 24 = .ok (.iadd, 1) := by decide +kernel
theorem dX12_classesOf_25 : decode cX12_classesOf 25 = .ok (.istore_n 2, 1) := by decide +kernel
theorem dX12_classesOf_26 : decode cX12_classesOf 26 = .ok (.iinc 3 1, 3) := by decide +kernel
theorem dX12_classesOf_29 : decode cX12_classesOf 29 = .ok (.goto (-25), 3) := by decide +kernel
theorem dX12_classesOf_32 : decode cX12_classesOf 32 = .ok (.iload_n 2, 1) := by decide +kernel
theorem dX12_classesOf_33 : decode cX12_classesOf 33 = .ok (.ireturn, 1) := by decide +kernel
theorem dX12_term_0 : decode cX12_term 0 = .ok (.iload_n 1, 1) := by decide +kernel
theorem dX12_term_1 : decode cX12_term 1 = .ok (.iconst 0, 1) := by decide +kernel
theorem dX12_term_2 : decode cX12_term 2 = .ok (.bipush 6, 2) := by decide +kernel
theorem dX12_term_4 : decode cX12_term 4 = .ok (.invokestatic 79, 3) := by decide +kernel
theorem dX12_term_7 : decode cX12_term 7 = .ok (.ifCond .eq 34, 3) := by decide +kernel
theorem dX12_term_10 : decode cX12_term 10 = .ok (.iload_n 1, 1) := by decide +kernel
theorem dX12_term_11 : decode cX12_term 11 = .ok (.invokestatic 106, 3) := by decide +kernel
theorem dX12_term_14 : decode cX12_term 14 = .ok (.ifCond .le 11, 3) := by decide +kernel
theorem dX12_term_17 : decode cX12_term 17 = .ok (.aload_n 0, 1) := by decide +kernel
theorem dX12_term_18 : decode cX12_term 18 = .ok (.iload_n 2, 1) := by decide +kernel
theorem dX12_term_19 : decode cX12_term 19 = .ok (.invokevirtual 109, 3) := by decide +kernel
theorem dX12_term_22 : decode cX12_term 22 = .ok (.ifCond .eq 19, 3) := by decide +kernel
theorem dX12_term_25 : decode cX12_term 25 = .ok (.iload_n 1, 1) := by decide +kernel
theorem dX12_term_26 : decode cX12_term 26 = .ok (.invokestatic 106, 3) := by decide +kernel
theorem dX12_term_29 : decode cX12_term 29 = .ok (.iconst 1, 1) := by decide +kernel
theorem dX12_term_30 : decode cX12_term 30 = .ok (.if_icmp .le 18, 3) := by decide +kernel
theorem dX12_term_33 : decode cX12_term 33 = .ok (.aload_n 0, 1) := by decide +kernel
theorem dX12_term_34 : decode cX12_term 34 = .ok (.iload_n 3, 1) := by decide +kernel
theorem dX12_term_35 : decode cX12_term 35 = .ok (.invokevirtual 109, 3) := by decide +kernel
theorem dX12_term_38 : decode cX12_term 38 = .ok (.ifCond .ne 10, 3) := by decide +kernel
theorem dX12_term_41 : decode cX12_term 41 = .ok (.aload_n 0, 1) := by decide +kernel
theorem dX12_term_42 : decode cX12_term 42 = .ok (.bipush (-2), 2) := by decide +kernel
theorem dX12_term_44 : decode cX12_term 44 = .ok (.invokevirtual 113, 3) := by decide +kernel
theorem dX12_term_47 : decode cX12_term 47 = .ok (.ireturn, 1) := by decide +kernel
theorem dX12_term_48 : decode cX12_term 48 = .ok (.iload_n 1, 1) := by decide +kernel
theorem dX12_term_49 : decode cX12_term 49 = .ok (.invokestatic 106, 3) := by decide +kernel
theorem dX12_term_52 : decode cX12_term 52 = .ok (.ifCond .le 7, 3) := by decide +kernel
theorem dX12_term_55 : decode cX12_term 55 = .ok (.iload_n 2, 1) := by decide +kernel
theorem dX12_term_56 : decode cX12_term 56 = .ok (.goto 4, 3) := by decide +kernel
theorem dX12_term_59 : decode cX12_term 59 = .ok (.iconst (-1), 1) := by decide +kernel
theorem dX12_term_60 : decode cX12_term 60 = .ok (.istore 4, 2) := by decide +kernel
theorem dX12_term_62 : decode cX12_term 62 = .ok (.iload_n 1, 1) := by decide +kernel
theorem dX12_term_63 : decode cX12_term 63 = .ok (.invokestatic 106, 3) := by decide +kernel
theorem dX12_term_66 : decode cX12_term 66 = .ok (.iconst 1, 1) := by decide +kernel
theorem dX12_term_67 : decode cX12_term 67 = .ok (.if_icmp .le 7, 3) := by decide +kernel
theorem dX12_term_70 : decode cX12_term 70 = .ok (.iload_n 3, 1) := by decide +kernel
theorem dX12_term_71 : decode cX12_term 71 = .ok (.goto 4, 3) := by decide +kernel
theorem dX12_term_74 : decode cX12_term 74 = .ok (.iconst (-1), 1) := by decide +kernel
theorem dX12_term_75 : decode cX12_term 75 = .ok (.istore 5, 2) := by decide +kernel
theorem dX12_term_77 : decode cX12_term 77 = .ok (.aload_n 0, 1) := by decide +kernel
theorem dX12_term_78 : decode cX12_term 78 = .ok (.iload_n 1, 1) := by decide +kernel
theorem dX12_term_79 : decode cX12_term 79 = .ok (.iload 4, 2) := by decide +kernel
theorem dX12_term_81 : decode cX12_term 81 = .ok (.iload 5, 2) := by decide +kernel
theorem dX12_term_83 : decode cX12_term 83 = .ok (.invokevirtual 87, 3) := by decide +kernel
theorem dX12_term_86 : decode cX12_term 86 = .ok (.ifCond .ge 21, 3) := by decide +kernel
theorem dX12_term_89 : decode cX12_term 89 = .ok (.aload_n 0, 1) := by decide +kernel
theorem dX12_term_90 : decode cX12_term 90 = .ok (.getfield 7, 3) := by decide +kernel
theorem dX12_term_93 : decode cX12_term 93 = .ok (.iconst 0, 1) := by decide +kernel
theorem dX12_term_94 : decode cX12_term 94 = .ok (.iaload, 1) := by decide +kernel
theorem dX12_term_95 : decode cX12_term 95 = .ok (.bipush 50, 2) := by decide +kernel
theorem dX12_term_97 : decode cX12_term 97 = .ok (.if_icmp .ne 10, 3) := by decide +kernel
theorem dX12_term_100 : decode cX12_term 100 = .ok (.aload_n 0, 1) := by decide +kernel
theorem dX12_term_101 : decode cX12_term 101 = .ok (.bipush (-4), 2) := by decide +kernel
theorem dX12_term_103 : decode cX12_term 103 = .ok (.invokevirtual 113, 3) := by decide +kernel
theorem dX12_term_106 : decode cX12_term 106 = .ok (.ireturn, 1) := by decide +kernel
theorem dX12_term_107 : decode cX12_term 107 = .ok (.aload_n 0, 1) := by decide +kernel
theorem dX12_term_108 : decode cX12_term 108 = .ok (.invokevirtual 116, 3) := by decide +kernel
theorem dX12_term_111 : decode cX12_term 111 = .ok (.aload_n 0, 1) := by decide +kernel
theorem dX12_term_112 : decode cX12_term 112 = .ok (.iload_n 1, 1) := by decide +kernel
theorem dX12_term_113 : decode cX12_term 113 = .ok (.iload 4, 2) := by decide +kernel
theorem dX12_term_115 : decode cX12_term 115 = .ok (.iload 5, 2) := by decide +kernel
theorem dX12_term_117 : decode cX12_term 117 = .ok (.iconst 0, 1) := by decide +kernel
theorem dX12_term_118 : decode cX12_term 118 = .ok (.invokevirtual 119, 3) := by decide +kernel
theorem dX12_term_121 : decode cX12_term 121 = .ok (.istore 6, 2) := by decide +kernel
theorem dX12_term_123 : decode cX12_term 123 = .ok (.aload_n 0, 1) := by decide +kernel
theorem dX12_term_124 : decode cX12_term 124 = .ok (.getfield 7, 3) := by decide +kernel
theorem dX12_term_127 : decode cX12_term 127 = .ok (.sipush 152, 3) := by decide +kernel
theorem dX12_term_130 : decode cX12_term 130 = .ok (.iload 6, 2) := by decide +kernel
theorem dX12_term_132 : decode cX12_term 132 = .ok (.iadd, 1) := by decide +kernel
theorem dX12_term_133 : decode cX12_term 133 = .ok (.iconst 0, 1) := by decide +kernel
theorem dX12_term_134 : decode cX12_term 134 = .ok (.iastore, 1) := by decide +kernel
theorem dX12_term_135 : decode cX12_term 135 = .ok (.aload_n 0, 1) := by decide +kernel
theorem dX12_term_136 : decode cX12_term 136 = .ok (.invokevirtual 123, 3) := by decide +kernel
theorem dX12_term_139 : decode cX12_term 139 = .ok (.iload 6, 2) := by decide +kernel
theorem dX12_term_141 : decode cX12_term 141 = .ok (.ireturn, 1) := by decide +kernel
theorem dX12_alike_0 : decode cX12_alike 0 = .ok (.aload_n 0, 1) := by decide +kernel
theorem dX12_alike_1 : decode cX12_alike 1 = .ok (.iload_n 1, 1) := by decide +kernel
theorem dX12_alike_2 : decode cX12_alike 2 = .ok (.invokevirtual 109, 3) := by decide +kernel
theorem dX12_alike_5 : decode cX12_alike 5 = .ok (.ifCond .eq 11, 3) := by decide +kernel
theorem dX12_alike_8 : decode cX12_alike 8 = .ok (.aload_n 0, 1) := by decide +kernel
theorem dX12_alike_9 : decode cX12_alike 9 = .ok (.iload_n 2, 1) := by decide +kernel
theorem dX12_alike_10 : decode cX12_alike 10 = .ok (.invokevirtual 109, 3) := by decide +kernel
theorem dX12_alike_13 : decode cX12_alike 13 = .ok (.ifCond .ne 10, 3) := by decide +kernel
theorem dX12_alike_16 : decode cX12_alike 16 = .ok (.aload_n 0, 1) := by decide +kernel
theorem dX12_alike_17 : decode cX12_alike 17 = .ok (.bipush (-2), 2) := by decide +kernel
theorem dX12_alike_19 : decode cX12_alike 19 = .ok (.invokevirtual 113, 3) := by decide +kernel
theorem dX12_alike_22 : decode cX12_alike 22 = .ok (.ireturn, 1) := by decide +kernel
theorem dX12_alike_23 : decode cX12_alike 23 = .ok (.aload_n 0, 1) := by decide +kernel
theorem dX12_alike_24 : decode cX12_alike 24 = .ok (.invokevirtual 116, 3) := by decide +kernel
theorem dX12_alike_27 : decode cX12_alike 27 = .ok (.aload_n 0, 1) := by decide +kernel
theorem dX12_alike_28 : decode cX12_alike 28 = .ok (.aload_n 0, 1) := by decide +kernel
theorem dX12_alike_29 : decode cX12_alike 29 = .ok (.getfield 7, 3) := by decide +kernel
theorem dX12_alike_32 : decode cX12_alike 32 = .ok (.iconst 0, 1) := by decide +kernel
theorem dX12_alike_33 : decode cX12_alike 33 = .ok (.iaload, 1) := by decide +kernel
theorem dX12_alike_34 : decode cX12_alike 34 = .ok (.invokevirtual 126, 3) := by decide +kernel
theorem dX12_alike_37 : decode cX12_alike 37 = .ok (.istore_n 3, 1) := by decide +kernel
theorem dX12_alike_38 : decode cX12_alike 38 = .ok (.aload_n 0, 1) := by decide +kernel
theorem dX12_alike_39 : decode cX12_alike 39 = .ok (.iload_n 1, 1) := by decide +kernel
theorem dX12_alike_40 : decode cX12_alike 40 = .ok (.iload_n 2, 1) := by decide +kernel
theorem dX12_alike_41 : decode cX12_alike 41 = .ok (.invokevirtual 103, 3) := by decide +kernel
theorem dX12_alike_44 : decode cX12_alike 44 = .ok (.pop, 1) := by decide +kernel
theorem dX12_alike_45 : decode cX12_alike 45 = .ok (.aload_n 0, 1) := by decide +kernel
theorem dX12_alike_46 : decode cX12_alike 46 = .ok (.invokevirtual 123, 3) := by decide +kernel
theorem dX12_alike_49 : decode cX12_alike 49 = .ok (.iload_n 3, 1) := by decide +kernel
theorem dX12_alike_50 : decode cX12_alike 50 = .ok (.aload_n 0, 1) := by decide +kernel
theorem dX12_alike_51 : decode cX12_alike 51 = .ok (.aload_n 0, 1) := by decide +kernel
theorem dX12_alike_52 : decode cX12_alike 52 = .ok (.getfield 7, 3) := by decide +kernel
theorem dX12_alike_55 : decode cX12_alike 55 = .ok (.iconst 0, 1) := by decide +kernel
theorem dX12_alike_56 : decode cX12_alike 56 = .ok (.iaload, 1) := by decide +kernel
theorem dX12_alike_57 : decode cX12_alike 57 = .ok (.invokevirtual 126, 3) := by decide +kernel
theorem dX12_alike_60 : decode cX12_alike 60 = .ok (.isub, 1) := by decide +kernel
theorem dX12_alike_61 : decode cX12_alike 61 = .ok (.ireturn, 1) := by decide +kernel
theorem dX12_anew_0 : decode cX12_anew 0 = .ok (.aload_n 0, 1) := by decide +kernel
theorem dX12_anew_1 : decode cX12_anew 1 = .ok (.invokevirtual 116, 3) := by decide +kernel
theorem dX12_anew_4 : decode cX12_anew 4 = .ok (.aload_n 0, 1) := by decide +kernel
theorem dX12_anew_5 : decode cX12_anew 5 = .ok (.getfield 7, 3) := by decide +kernel
theorem dX12_anew_8 : decode cX12_anew 8 = .ok (.iconst 0, 1) := by decide +kernel
theorem dX12_anew_9 : decode cX12_anew 9 = .ok (.iaload, 1) := by decide +kernel
theorem dX12_anew_10 : decode cX12_anew 10 = .ok (.istore_n 1, 1) := by decide +kernel
theorem dX12_anew_11 : decode cX12_anew 11 = .ok (.aload_n 0, 1) := by decide +kernel
theorem dX12_anew_12 : decode cX12_anew 12 = .ok (.getfield 7, 3) := by decide +kernel
theorem dX12_anew_15 : decode cX12_anew 15 = .ok (.iconst 0, 1) := by decide +kernel
theorem dX12_anew_16 : decode cX12_anew 16 = .ok (.iconst 0, 1) := by decide +kernel
theorem dX12_anew_17 : decode cX12_anew 17 = .ok (.iastore, 1) := by decide +kernel
theorem dX12_anew_18 : decode cX12_anew 18 = .ok (.aload_n 0, 1) := by decide +kernel
theorem dX12_anew_19 : decode cX12_anew 19 = .ok (.getfield 7, 3) := by decide +kernel
theorem dX12_anew_22 : decode cX12_anew 22 = .ok (.iconst 1, 1) := by decide +kernel
theorem dX12_anew_23 : decode cX12_anew 23 = .ok (.iconst 0, 1) := by decide +kernel
theorem dX12_anew_24 : decode cX12_anew 24 = .ok (.iastore, 1) := by decide +kernel
theorem dX12_anew_25 : decode cX12_anew 25 = .ok (.iload_n 1, 1) := by decide +kernel
theorem dX12_anew_26 : decode cX12_anew 26 = .ok (.ireturn, 1) := by decide +kernel
theorem dX12_of_0 : decode cX12_of 0 = .ok (.aload_n 0, 1) := by decide +kernel
theorem dX12_of_1 : decode cX12_of 1 = .ok (.iload_n 1, 1) := by decide +kernel
theorem dX12_of_2 : decode cX12_of 2 = .ok (.invokevirtual 109, 3) := by decide +kernel
theorem dX12_of_5 : decode cX12_of 5 = .ok (.ifCond .eq 12, 3) := by decide +kernel
theorem dX12_of_8 : decode cX12_of 8 = .ok (.iload_n 2, 1) := by decide +kernel
theorem dX12_of_9 : decode cX12_of 9 = .ok (.iconst 0, 1) := by decide +kernel
theorem dX12_of_10 : decode cX12_of 10 = .ok (.iconst 4, 1) := by decide +kernel
theorem dX12_of_11 : decode cX12_of 11 = .ok (.invokestatic 79, 3) := by decide +kernel
theorem dX12_of_14 : decode cX12_of 14 = .ok (.ifCond .ne 10, 3) := by decide +kernel
theorem dX12_of_17 : decode cX12_of 17 = .ok (.aload_n 0, 1) := by decide +kernel
theorem dX12_of_18 : decode cX12_of 18 = .ok (.bipush (-2), 2) := by decide +kernel
theorem dX12_of_20 : decode cX12_of 20 = .ok (.invokevirtual 113, 3) := by decide +kernel
theorem dX12_of_23 : decode cX12_of 23 = .ok (.ireturn, 1) := by decide +kernel
theorem dX12_of_24 : decode cX12_of 24 = .ok (.aload_n 0, 1) := by decide +kernel
theorem dX12_of_25 : decode cX12_of 25 = .ok (.getfield 7, 3) := by decide +kernel
theorem dX12_of_28 : decode cX12_of 28 = .ok (.iconst 2, 1) := by decide +kernel
theorem dX12_of_29 : decode cX12_of 29 = .ok (.bipush 50, 2) := by decide +kernel
theorem dX12_of_31 : decode cX12_of 31 = .ok (.iload_n 2, 1) := by decide +kernel
theorem dX12_of_32 : decode cX12_of 32 = .ok (.imul, 1) := by decide +kernel
theorem dX12_of_33 : decode cX12_of 33 = .ok (.iadd, 1) := by decide +kernel
theorem dX12_of_34 : decode cX12_of 34 = .ok (.iload_n 1, 1) := by decide +kernel
theorem dX12_of_35 : decode cX12_of 35 = .ok (.iadd, 1) := by decide +kernel
theorem dX12_of_36 : decode cX12_of 36 = .ok (.iaload, 1) := by decide +kernel
theorem dX12_of_37 : decode cX12_of 37 = .ok (.ireturn, 1) := by decide +kernel
theorem dX12_same_0 : decode cX12_same 0 = .ok (.aload_n 0, 1) := by decide +kernel
theorem dX12_same_1 : decode cX12_same 1 = .ok (.iload_n 1, 1) := by decide +kernel
theorem dX12_same_2 : decode cX12_same 2 = .ok (.invokevirtual 109, 3) := by decide +kernel
theorem dX12_same_5 : decode cX12_same 5 = .ok (.ifCond .eq 32, 3) := by decide +kernel
theorem dX12_same_8 : decode cX12_same 8 = .ok (.aload_n 0, 1) := by decide +kernel
theorem dX12_same_9 : decode cX12_same 9 = .ok (.iload_n 2, 1) := by decide +kernel
theorem dX12_same_10 : decode cX12_same 10 = .ok (.invokevirtual 109, 3) := by decide +kernel
theorem dX12_same_13 : decode cX12_same 13 = .ok (.ifCond .eq 24, 3) := by decide +kernel
theorem dX12_same_16 : decode cX12_same 16 = .ok (.aload_n 0, 1) := by decide +kernel
theorem dX12_same_17 : decode cX12_same 17 = .ok (.iload_n 1, 1) := by decide +kernel
theorem dX12_same_18 : decode cX12_same 18 = .ok (.invokevirtual 95, 3) := by decide +kernel
theorem dX12_same_21 : decode cX12_same 21 = .ok (.aload_n 0, 1) := by decide +kernel
theorem dX12_same_22 : decode cX12_same 22 = .ok (.iload_n 2, 1) := by decide +kernel
theorem dX12_same_23 : decode cX12_same 23 = .ok (.invokevirtual 95, 3) := by decide +kernel
theorem dX12_same_26 : decode cX12_same 26 = .ok (.if_icmp .ne 7, 3) := by decide +kernel
theorem dX12_same_29 : decode cX12_same 29 = .ok (.iconst 1, 1) := by decide +kernel
theorem dX12_same_30 : decode cX12_same 30 = .ok (.goto 13, 3) := by decide +kernel
theorem dX12_same_33 : decode cX12_same 33 = .ok (.iconst 0, 1) := by decide +kernel
theorem dX12_same_34 : decode cX12_same 34 = .ok (.goto 9, 3) := by decide +kernel
theorem dX12_same_37 : decode cX12_same 37 = .ok (.aload_n 0, 1) := by decide +kernel
theorem dX12_same_38 : decode cX12_same 38 = .ok (.bipush (-2), 2) := by decide +kernel
theorem dX12_same_40 : decode cX12_same 40 = .ok (.invokevirtual 113, 3) := by decide +kernel
theorem dX12_same_43 : decode cX12_same 43 = .ok (.ireturn, 1) := by decide +kernel
theorem dX12_classes_0 : decode cX12_classes 0 = .ok (.aload_n 0, 1) := by decide +kernel
theorem dX12_classes_1 : decode cX12_classes 1 = .ok (.aload_n 0, 1) := by decide +kernel
theorem dX12_classes_2 : decode cX12_classes 2 = .ok (.getfield 7, 3) := by decide +kernel
theorem dX12_classes_5 : decode cX12_classes 5 = .ok (.iconst 0, 1) := by decide +kernel
theorem dX12_classes_6 : decode cX12_classes 6 = .ok (.iaload, 1) := by decide +kernel
theorem dX12_classes_7 : decode cX12_classes 7 = .ok (.invokevirtual 126, 3) := by decide +kernel
theorem dX12_classes_10 : decode cX12_classes 10 = .ok (.ireturn, 1) := by decide +kernel
theorem dX12_costOf_0 : decode cX12_costOf 0 = .ok (.iconst 0, 1) := by decide +kernel
theorem dX12_costOf_1 : decode cX12_costOf 1 = .ok (.istore_n 2, 1) := by decide +kernel
theorem dX12_costOf_2 : decode cX12_costOf 2 = .ok (.iload_n 2, 1) := by decide +kernel
theorem dX12_costOf_3 : decode cX12_costOf 3 = .ok (.aload_n 0, 1) := by decide +kernel
theorem dX12_costOf_4 : decode cX12_costOf 4 = .ok (.getfield 7, 3) := by decide +kernel
theorem dX12_costOf_7 : decode cX12_costOf 7 = .ok (.iconst 0, 1) := by decide +kernel
theorem dX12_costOf_8 : decode cX12_costOf 8 = .ok (.iaload, 1) := by decide +kernel
theorem dX12_costOf_9 : decode cX12_costOf 9 = .ok (.if_icmp .ge 17, 3) := by decide +kernel
theorem dX12_costOf_12 : decode cX12_costOf 12 = .ok (.aload_n 0, 1) := by decide +kernel
theorem dX12_costOf_13 : decode cX12_costOf 13 = .ok (.getfield 73, 3) := by decide +kernel
theorem dX12_costOf_16 : decode cX12_costOf 16 = .ok (.iload_n 2, 1) := by decide +kernel
theorem dX12_costOf_17 : decode cX12_costOf 17 = .ok (.ldc 129, 2) := by decide +kernel
theorem dX12_costOf_19 : decode cX12_costOf 19 = .ok (.iastore, 1) := by decide +kernel
theorem dX12_costOf_20 : decode cX12_costOf 20 = .ok (.iinc 2 1, 3) := by decide +kernel
theorem dX12_costOf_23 : decode cX12_costOf 23 = .ok (.goto (-21), 3) := by decide +kernel
theorem dX12_costOf_26 : decode cX12_costOf 26 = .ok (.iconst 0, 1) := by decide +kernel
theorem dX12_costOf_27 : decode cX12_costOf 27 = .ok (.istore_n 2, 1) := by decide +kernel
theorem dX12_costOf_28 : decode cX12_costOf 28 = .ok (.iload_n 2, 1) := by decide +kernel
theorem dX12_costOf_29 : decode cX12_costOf 29 = .ok (.aload_n 0, 1) := by decide +kernel
theorem dX12_costOf_30 : decode cX12_costOf 30 = .ok (.getfield 7, 3) := by decide +kernel
theorem dX12_costOf_33 : decode cX12_costOf 33 = .ok (.iconst 0, 1) := by decide +kernel
theorem dX12_costOf_34 : decode cX12_costOf 34 = .ok (.iaload, 1) := by decide +kernel
theorem dX12_costOf_35 : decode cX12_costOf 35 = .ok (.if_icmp .ge 140, 3) := by decide +kernel
theorem dX12_costOf_38 : decode cX12_costOf 38 = .ok (.iconst 0, 1) := by decide +kernel
theorem dX12_costOf_39 : decode cX12_costOf 39 = .ok (.istore_n 3, 1) := by decide +kernel
theorem dX12_costOf_40 : decode cX12_costOf 40 = .ok (.iload_n 3, 1) := by decide +kernel
theorem dX12_costOf_41 : decode cX12_costOf 41 = .ok (.aload_n 0, 1) := by decide +kernel
theorem dX12_costOf_42 : decode cX12_costOf 42 = .ok (.getfield 7, 3) := by decide +kernel
theorem dX12_costOf_45 : decode cX12_costOf 45 = .ok (.iconst 0, 1) := by decide +kernel
theorem dX12_costOf_46 : decode cX12_costOf 46 = .ok (.iaload, 1) := by decide +kernel
theorem dX12_costOf_47 : decode cX12_costOf 47 = .ok (.if_icmp .ge 122, 3) := by decide +kernel
theorem dX12_costOf_50 : decode cX12_costOf 50 = .ok (.iconst 1, 1) := by decide +kernel
theorem dX12_costOf_51 : decode cX12_costOf 51 = .ok (.aload_n 0, 1) := by decide +kernel
theorem dX12_costOf_52 : decode cX12_costOf 52 = .ok (.getfield 7, 3) := by decide +kernel
theorem dX12_costOf_55 : decode cX12_costOf 55 = .ok (.bipush 52, 2) := by decide +kernel
theorem dX12_costOf_57 : decode cX12_costOf 57 = .ok (.iload_n 3, 1) := by decide +kernel
theorem dX12_costOf_58 : decode cX12_costOf 58 = .ok (.iadd, 1) := by decide +kernel
theorem dX12_costOf_59 : decode cX12_costOf 59 = .ok (.iaload, 1) := by decide +kernel
theorem dX12_costOf_60 : decode cX12_costOf 60 = .ok (.ifCond .ge 7, 3) := by decide +kernel
theorem dX12_costOf_63 : decode cX12_costOf 63 = .ok (.iconst 0, 1) := by decide +kernel
theorem dX12_costOf_64 : decode cX12_costOf 64 = .ok (.goto 21, 3) := by decide +kernel
theorem dX12_costOf_67 : decode cX12_costOf 67 = .ok (.aload_n 0, 1) := by decide +kernel
theorem dX12_costOf_68 : decode cX12_costOf 68 = .ok (.getfield 73, 3) := by decide +kernel
theorem dX12_costOf_71 : decode cX12_costOf 71 = .ok (.aload_n 0, 1) := by decide +kernel
theorem dX12_costOf_72 : decode cX12_costOf 72 = .ok (.aload_n 0, 1) := by decide +kernel
theorem dX12_costOf_73 : decode cX12_costOf 73 = .ok (.getfield 7, 3) := by decide +kernel
theorem dX12_costOf_76 : decode cX12_costOf 76 = .ok (.bipush 52, 2) := by decide +kernel
theorem dX12_costOf_78 : decode cX12_costOf 78 = .ok (.iload_n 3, 1) := by decide +kernel
theorem dX12_costOf_79 : decode cX12_costOf 79 = .ok (.iadd, 1) := by decide +kernel
theorem dX12_costOf_80 : decode cX12_costOf 80 = .ok (.iaload, 1) := by decide +kernel
theorem dX12_costOf_81 : decode cX12_costOf 81 = .ok (.invokevirtual 95, 3) := by decide +kernel
theorem dX12_costOf_84 : decode cX12_costOf 84 = .ok (.iaload, 1) := by decide +kernel
theorem dX12_costOf_85 : decode cX12_costOf 85 = .ok (.iadd, 1) := by decide +kernel
theorem dX12_costOf_86 : decode cX12_costOf 86 = .ok (.aload_n 0, 1) := by decide +kernel
theorem dX12_costOf_87 : decode cX12_costOf 87 = .ok (.getfield 7, 3) := by decide +kernel
theorem dX12_costOf_90 : decode cX12_costOf 90 = .ok (.bipush 102, 2) := by decide +kernel
theorem dX12_costOf_92 : decode cX12_costOf 92 = .ok (.iload_n 3, 1) := by decide +kernel
theorem dX12_costOf_93 : decode cX12_costOf 93 = .ok (.iadd, 1) := by decide +kernel
theorem dX12_costOf_94 : decode cX12_costOf 94 = .ok (.iaload, 1) := by decide +kernel
theorem dX12_costOf_95 : decode cX12_costOf 95 = .ok (.ifCond .ge 7, 3) := by decide +kernel
theorem dX12_costOf_98 : decode cX12_costOf 98 = .ok (.iconst 0, 1) := by decide +kernel
theorem dX12_costOf_99 : decode cX12_costOf 99 = .ok (.goto 21, 3) := by decide +kernel
theorem dX12_costOf_102 : decode cX12_costOf 102 = .ok (.aload_n 0, 1) := by decide +kernel
theorem dX12_costOf_103 : decode cX12_costOf 103 = .ok (.getfield 73, 3) := by decide +kernel
theorem dX12_costOf_106 : decode cX12_costOf 106 = .ok (.aload_n 0, 1) := by decide +kernel
theorem dX12_costOf_107 : decode cX12_costOf 107 = .ok (.aload_n 0, 1) := by decide +kernel
theorem dX12_costOf_108 : decode cX12_costOf 108 = .ok (.getfield 7, 3) := by decide +kernel
theorem dX12_costOf_111 : decode cX12_costOf 111 = .ok (.bipush 102, 2) := by decide +kernel
theorem dX12_costOf_113 : decode cX12_costOf 113 = .ok (.iload_n 3, 1) := by decide +kernel
theorem dX12_costOf_114 : decode cX12_costOf 114 = .ok (.iadd, 1) := by decide +kernel
theorem dX12_costOf_115 : decode cX12_costOf 115 = .ok (.iaload, 1) := by decide +kernel
theorem dX12_costOf_116 : decode cX12_costOf 116 = .ok (.invokevirtual 95, 3) := by decide +kernel
theorem dX12_costOf_119 : decode cX12_costOf 119 = .ok (.iaload, 1) := by decide +kernel
theorem dX12_costOf_120 : decode cX12_costOf 120 = .ok (.iadd, 1) := by decide +kernel
theorem dX12_costOf_121 : decode cX12_costOf 121 = .ok (.istore 4, 2) := by decide +kernel
theorem dX12_costOf_123 : decode cX12_costOf 123 = .ok (.aload_n 0, 1) := by decide +kernel
theorem dX12_costOf_124 : decode cX12_costOf 124 = .ok (.getfield 73, 3) := by decide +kernel
theorem dX12_costOf_127 : decode cX12_costOf 127 = .ok (.aload_n 0, 1) := by decide +kernel
theorem dX12_costOf_128 : decode cX12_costOf 128 = .ok (.iload_n 3, 1) := by decide +kernel
theorem dX12_costOf_129 : decode cX12_costOf 129 = .ok (.invokevirtual 95, 3) := by decide +kernel
theorem dX12_costOf_132 : decode cX12_costOf 132 = .ok (.iload 4, 2) := by decide +kernel
theorem dX12_costOf_134 : decode cX12_costOf 134 = .ok (.aload_n 0, 1) := by decide +kernel
theorem dX12_costOf_135 : decode cX12_costOf 135 = .ok (.getfield 73, 3) := by decide +kernel
theorem dX12_costOf_138 : decode cX12_costOf 138 = .ok (.aload_n 0, 1) := by decide +kernel
theorem dX12_costOf_139 : decode cX12_costOf 139 = .ok (.iload_n 3, 1) := by decide +kernel
theorem dX12_costOf_140 : decode cX12_costOf 140 = .ok (.invokevirtual 95, 3) := by decide +kernel
theorem dX12_costOf_143 : decode cX12_costOf 143 = .ok (.iaload, 1) := by decide +kernel
theorem dX12_costOf_144 : decode cX12_costOf 144 = .ok (.if_icmp .ge 8, 3) := by decide +kernel
theorem dX12_costOf_147 : decode cX12_costOf 147 = .ok (.iload 4, 2) := by decide +kernel
theorem dX12_costOf_149 : decode cX12_costOf 149 = .ok (.goto 13, 3) := by decide +kernel
theorem dX12_costOf_152 : decode cX12_costOf 152 = .ok (.aload_n 0, 1) := by decide +kernel
theorem dX12_costOf_153 : decode cX12_costOf 153 = .ok (.getfield 73, 3) := by decide +kernel
theorem dX12_costOf_156 : decode cX12_costOf 156 = .ok (.aload_n 0, 1) := by decide +kernel
theorem dX12_costOf_157 : decode cX12_costOf 157 = .ok (.iload_n 3, 1) := by decide +kernel
theorem dX12_costOf_158 : decode cX12_costOf 158 = .ok (.invokevirtual 95, 3) := by decide +kernel
theorem dX12_costOf_161 : decode cX12_costOf 161 = .ok (.iaload, 1) := by decide +kernel
theorem dX12_costOf_162 : decode cX12_costOf 162 = .ok (.iastore, 1) := by decide +kernel
theorem dX12_costOf_163 : decode cX12_costOf 163 = .ok (.iinc 3 1, 3) := by decide +kernel
theorem dX12_costOf_166 : decode cX12_costOf 166 = .ok (.goto (-126), 3) := by decide +kernel
theorem dX12_costOf_169 : decode cX12_costOf 169 = .ok (.iinc 2 1, 3) := by decide +kernel
theorem dX12_costOf_172 : decode cX12_costOf 172 = .ok (.goto (-144), 3) := by decide +kernel
theorem dX12_costOf_175 : decode cX12_costOf 175 = .ok (.aload_n 0, 1) := by decide +kernel
theorem dX12_costOf_176 : decode cX12_costOf 176 = .ok (.getfield 73, 3) := by decide +kernel
theorem dX12_costOf_179 : decode cX12_costOf 179 = .ok (.aload_n 0, 1) := by decide +kernel
theorem dX12_costOf_180 : decode cX12_costOf 180 = .ok (.iload_n 1, 1) := by decide +kernel
theorem dX12_costOf_181 : decode cX12_costOf 181 = .ok (.invokevirtual 95, 3) := by decide +kernel
theorem dX12_costOf_184 : decode cX12_costOf 184 = .ok (.iaload, 1) := by decide +kernel
theorem dX12_costOf_185 : decode cX12_costOf 185 = .ok (.ireturn, 1) := by decide +kernel
theorem dX12_about_0 : decode cX12_about 0 = .ok (.aload_n 0, 1) := by decide +kernel
theorem dX12_about_1 : decode cX12_about 1 = .ok (.iload_n 1, 1) := by decide +kernel
theorem dX12_about_2 : decode cX12_about 2 = .ok (.invokevirtual 109, 3) := by decide +kernel
theorem dX12_about_5 : decode cX12_about 5 = .ok (.ifCond .eq 12, 3) := by decide +kernel
theorem dX12_about_8 : decode cX12_about 8 = .ok (.iload_n 2, 1) := by decide +kernel
theorem dX12_about_9 : decode cX12_about 9 = .ok (.iconst 0, 1) := by decide +kernel
theorem dX12_about_10 : decode cX12_about 10 = .ok (.iconst 3, 1) := by decide +kernel
theorem dX12_about_11 : decode cX12_about 11 = .ok (.invokestatic 79, 3) := by decide +kernel
theorem dX12_about_14 : decode cX12_about 14 = .ok (.ifCond .ne 10, 3) := by decide +kernel
theorem dX12_about_17 : decode cX12_about 17 = .ok (.aload_n 0, 1) := by decide +kernel
theorem dX12_about_18 : decode cX12_about 18 = .ok (.bipush (-2), 2) := by decide +kernel
theorem dX12_about_20 : decode cX12_about 20 = .ok (.invokevirtual 113, 3) := by decide +kernel
theorem dX12_about_23 : decode cX12_about 23 = .ok (.ireturn, 1) := by decide +kernel
theorem dX12_about_24 : decode cX12_about 24 = .ok (.iload_n 2, 1) := by decide +kernel
theorem dX12_about_25 : decode cX12_about 25 = .ok (.iconst 2, 1) := by decide +kernel
theorem dX12_about_26 : decode cX12_about 26 = .ok (.if_icmp .ne 9, 3) := by decide +kernel
theorem dX12_about_29 : decode cX12_about 29 = .ok (.aload_n 0, 1) := by decide +kernel
theorem dX12_about_30 : decode cX12_about 30 = .ok (.iload_n 1, 1) := by decide +kernel
theorem dX12_about_31 : decode cX12_about 31 = .ok (.invokevirtual 130, 3) := by decide +kernel
theorem dX12_about_34 : decode cX12_about 34 = .ok (.ireturn, 1) := by decide +kernel
theorem dX12_about_35 : decode cX12_about 35 = .ok (.iconst 0, 1) := by decide +kernel
theorem dX12_about_36 : decode cX12_about 36 = .ok (.istore_n 3, 1) := by decide +kernel
theorem dX12_about_37 : decode cX12_about 37 = .ok (.bipush 99, 2) := by decide +kernel
theorem dX12_about_39 : decode cX12_about 39 = .ok (.istore 4, 2) := by decide +kernel
theorem dX12_about_41 : decode cX12_about 41 = .ok (.iconst 0, 1) := by decide +kernel
theorem dX12_about_42 : decode cX12_about 42 = .ok (.istore 5, 2) := by decide +kernel
theorem dX12_about_44 : decode cX12_about 44 = .ok (.iconst 0, 1) := by decide +kernel
theorem dX12_about_45 : decode cX12_about 45 = .ok (.istore 6, 2) := by decide +kernel
theorem dX12_about_47 : decode cX12_about 47 = .ok (.iload 6, 2) := by decide +kernel
theorem dX12_about_49 : decode cX12_about 49 = .ok (.aload_n 0, 1) := by decide +kernel
theorem dX12_about_50 : decode cX12_about 50 = .ok (.getfield 7, 3) := by decide +kernel
theorem dX12_about_53 : decode cX12_about 53 = .ok (.iconst 0, 1) := by decide +kernel
theorem dX12_about_54 : decode cX12_about 54 = .ok (.iaload, 1) := by decide +kernel
theorem dX12_about_55 : decode cX12_about 55 = .ok (.if_icmp .ge 162, 3) := by decide +kernel
theorem dX12_about_58 : decode cX12_about 58 = .ok (.aload_n 0, 1) := by decide +kernel
theorem dX12_about_59 : decode cX12_about 59 = .ok (.iload 6, 2) := by decide +kernel
theorem dX12_about_61 : decode cX12_about 61 = .ok (.invokevirtual 95, 3) := by decide +kernel
theorem dX12_about_64 : decode cX12_about 64 = .ok (.aload_n 0, 1) := by decide +kernel
theorem dX12_about_65 : decode cX12_about 65 = .ok (.iload_n 1, 1) := by decide +kernel
theorem dX12_about_66 : decode cX12_about 66 = .ok (.invokevirtual 95, 3) := by decide +kernel
theorem dX12_about_69 : decode cX12_about 69 = .ok (.if_icmp .ne 7, 3) := by decide +kernel
theorem dX12_about_72 : decode cX12_about 72 = .ok (.iconst 1, 1) := by decide +kernel
theorem dX12_about_73 : decode cX12_about 73 = .ok (.goto 4, 3) := by decide +kernel
theorem dX12_about_76 : decode cX12_about 76 = .ok (.iconst 0, 1) := by decide +kernel
theorem dX12_about_77 : decode cX12_about 77 = .ok (.istore 7, 2) := by decide +kernel
theorem dX12_about_79 : decode cX12_about 79 = .ok (.iload_n 3, 1) := by decide +kernel
theorem dX12_about_80 : decode cX12_about 80 = .ok (.iload 7, 2) := by decide +kernel
theorem dX12_about_82 : decode cX12_about 82 = .ok (.ifCond .eq 7, 3) := by decide +kernel
theorem dX12_about_85 : decode cX12_about 85 = .ok (.iconst 1, 1) := by decide +kernel
theorem dX12_about_86 : decode cX12_about 86 = .ok (.goto 4, 3) := by decide +kernel
theorem dX12_about_89 : decode cX12_about 89 = .ok (.iconst 0, 1) := by decide +kernel
theorem dX12_about_90 : decode cX12_about 90 = .ok (.iadd, 1) := by decide +kernel
theorem dX12_about_91 : decode cX12_about 91 = .ok (.istore_n 3, 1) := by decide +kernel
theorem dX12_about_92 : decode cX12_about 92 = .ok (.iload 7, 2) := by decide +kernel
theorem dX12_about_94 : decode cX12_about 94 = .ok (.ifCond .eq 33, 3) := by decide +kernel
theorem dX12_about_97 : decode cX12_about 97 = .ok (.aload_n 0, 1) := by decide +kernel
theorem dX12_about_98 : decode cX12_about 98 = .ok (.getfield 7, 3) := by decide +kernel
theorem dX12_about_101 : decode cX12_about 101 = .ok (.sipush 152, 3) := by decide +kernel
theorem dX12_about_104 : decode cX12_about 104 = .ok (.iload 6, 2) := by decide +kernel
theorem dX12_about_106 : decode cX12_about 106 = .ok (.iadd, 1) := by decide +kernel
theorem dX12_about_107 : decode cX12_about 107 = .ok (.iaload, 1) := by decide +kernel
theorem dX12_about_108 : decode cX12_about 108 = .ok (.iload 4, 2) := by decide +kernel
theorem dX12_about_110 : decode cX12_about 110 = .ok (.if_icmp .ge 17, 3) := by decide +kernel
theorem dX12_about_113 : decode cX12_about 113 = .ok (.aload_n 0, 1) := by decide +kernel
theorem dX12_about_114 : decode cX12_about 114 = .ok (.getfield 7, 3) := by decide +kernel
theorem dX12_about_117 : decode cX12_about 117 = .ok (.sipush 152, 3) := by decide +kernel
theorem dX12_about_120 : decode cX12_about 120 = .ok (.iload 6, 2) := by decide +kernel
theorem dX12_about_122 : decode cX12_about 122 = .ok (.iadd, 1) := by decide +kernel
theorem dX12_about_123 : decode cX12_about 123 = .ok (.iaload, 1) := by decide +kernel
theorem dX12_about_124 : decode cX12_about 124 = .ok (.goto 5, 3) := by decide +kernel
theorem dX12_about_127 : decode cX12_about 127 = .ok (.iload 4, 2) := by decide +kernel
theorem dX12_about_129 : decode cX12_about 129 = .ok (.istore 4, 2) := by decide +kernel
theorem dX12_about_131 : decode cX12_about 131 = .ok (.iload 5, 2) := by decide +kernel
theorem dX12_about_133 : decode cX12_about 133 = .ok (.aload_n 0, 1) := by decide +kernel
theorem dX12_about_134 : decode cX12_about 134 = .ok (.getfield 7, 3) := by decide +kernel
theorem dX12_about_137 : decode cX12_about 137 = .ok (.bipush 52, 2) := by decide +kernel
theorem dX12_about_139 : decode cX12_about 139 = .ok (.iload 6, 2) := by decide +kernel
theorem dX12_about_141 : decode cX12_about 141 = .ok (.iadd, 1) := by decide +kernel
theorem dX12_about_142 : decode cX12_about 142 = .ok (.iaload, 1) := by decide +kernel
theorem dX12_about_143 : decode cX12_about 143 = .ok (.ifCond .lt 25, 3) := by decide +kernel
theorem dX12_about_146 : decode cX12_about 146 = .ok (.aload_n 0, 1) := by decide +kernel
theorem dX12_about_147 : decode cX12_about 147 = .ok (.aload_n 0, 1) := by decide +kernel
theorem dX12_about_148 : decode cX12_about 148 = .ok (.getfield 7, 3) := by decide +kernel
theorem dX12_about_151 : decode cX12_about 151 = .ok (.bipush 52, 2) := by decide +kernel
theorem dX12_about_153 : decode cX12_about 153 = .ok (.iload 6, 2) := by decide +kernel
theorem dX12_about_155 : decode cX12_about 155 = .ok (.iadd, 1) := by decide +kernel
theorem dX12_about_156 : decode cX12_about 156 = .ok (.iaload, 1) := by decide +kernel
theorem dX12_about_157 : decode cX12_about 157 = .ok (.invokevirtual 95, 3) := by decide +kernel
theorem dX12_about_160 : decode cX12_about 160 = .ok (.aload_n 0, 1) := by decide +kernel
theorem dX12_about_161 : decode cX12_about 161 = .ok (.iload_n 1, 1) := by decide +kernel
theorem dX12_about_162 : decode cX12_about 162 = .ok (.invokevirtual 95, 3) := by decide +kernel
theorem dX12_about_165 : decode cX12_about 165 = .ok (.if_icmp .eq 38, 3) := by decide +kernel
theorem dX12_about_168 : decode cX12_about 168 = .ok (.aload_n 0, 1) := by decide +kernel
theorem dX12_about_169 : decode cX12_about 169 = .ok (.getfield 7, 3) := by decide +kernel
theorem dX12_about_172 : decode cX12_about 172 = .ok (.bipush 102, 2) := by decide +kernel
theorem dX12_about_174 : decode cX12_about 174 = .ok (.iload 6, 2) := by decide +kernel
theorem dX12_about_176 : decode cX12_about 176 = .ok (.iadd, 1) := by decide +kernel
theorem dX12_about_177 : decode cX12_about 177 = .ok (.iaload, 1) := by decide +kernel
theorem dX12_about_178 : decode cX12_about 178 = .ok (.ifCond .lt 29, 3) := by decide +kernel
theorem dX12_about_181 : decode cX12_about 181 = .ok (.aload_n 0, 1) := by decide +kernel
theorem dX12_about_182 : decode cX12_about 182 = .ok (.aload_n 0, 1) := by decide +kernel
theorem dX12_about_183 : decode cX12_about 183 = .ok (.getfield 7, 3) := by decide +kernel
theorem dX12_about_186 : decode cX12_about 186 = .ok (.bipush 102, 2) := by decide +kernel
theorem dX12_about_188 : decode cX12_about 188 = .ok (.iload 6, 2) := by decide +kernel
theorem dX12_about_190 : decode cX12_about 190 = .ok (.iadd, 1) := by decide +kernel
theorem dX12_about_191 : decode cX12_about 191 = .ok (.iaload, 1) := by decide +kernel
theorem dX12_about_192 : decode cX12_about 192 = .ok (.invokevirtual 95, 3) := by decide +kernel
theorem dX12_about_195 : decode cX12_about 195 = .ok (.aload_n 0, 1) := by decide +kernel
theorem dX12_about_196 : decode cX12_about 196 = .ok (.iload_n 1, 1) := by decide +kernel
theorem dX12_about_197 : decode cX12_about 197 = .ok (.invokevirtual 95, 3) := by decide +kernel
theorem dX12_about_200 : decode cX12_about 200 = .ok (.if_icmp .ne 7, 3) := by decide +kernel
theorem dX12_about_203 : decode cX12_about 203 = .ok (.iconst 1, 1) := by decide +kernel
theorem dX12_about_204 : decode cX12_about 204 = .ok (.goto 4, 3) := by decide +kernel
theorem dX12_about_207 : decode cX12_about 207 = .ok (.iconst 0, 1) := by decide +kernel
theorem dX12_about_208 : decode cX12_about 208 = .ok (.iadd, 1) := by decide +kernel
theorem dX12_about_209 : decode cX12_about 209 = .ok (.istore 5, 2) := by decide +kernel
theorem dX12_about_211 : decode cX12_about 211 = .ok (.iinc 6 1, 3) := by decide +kernel
theorem dX12_about_214 : decode cX12_about 214 = .ok (.goto (-167), 3) := by decide +kernel
theorem dX12_about_217 : decode cX12_about 217 = .ok (.iload_n 2, 1) := by decide +kernel
theorem dX12_about_218 : decode cX12_about 218 = .ok (.ifCond .ne 7, 3) := by decide +kernel
theorem dX12_about_221 : decode cX12_about 221 = .ok (.iload_n 3, 1) := by decide +kernel
theorem dX12_about_222 : decode cX12_about 222 = .ok (.goto 15, 3) := by decide +kernel
theorem dX12_about_225 : decode cX12_about 225 = .ok (.iload_n 2, 1) := by decide +kernel
theorem dX12_about_226 : decode cX12_about 226 = .ok (.iconst 1, 1) := by decide +kernel
theorem dX12_about_227 : decode cX12_about 227 = .ok (.if_icmp .ne 8, 3) := by decide +kernel
theorem dX12_about_230 : decode cX12_about 230 = .ok (.iload 4, 2) := by decide +kernel
theorem dX12_about_232 : decode cX12_about 232 = .ok (.goto 5, 3) := by decide +kernel
theorem dX12_about_235 : decode cX12_about 235 = .ok (.iload 5, 2) := by decide +kernel
theorem dX12_about_237 : decode cX12_about 237 = .ok (.ireturn, 1) := by decide +kernel
theorem dX12_signAt_0 : decode cX12_signAt 0 = .ok (.aload_n 0, 1) := by decide +kernel
theorem dX12_signAt_1 : decode cX12_signAt 1 = .ok (.getfield 7, 3) := by decide +kernel
theorem dX12_signAt_4 : decode cX12_signAt 4 = .ok (.sipush 264, 3) := by decide +kernel
theorem dX12_signAt_7 : decode cX12_signAt 7 = .ok (.bipush 120, 2) := by decide +kernel
theorem dX12_signAt_9 : decode cX12_signAt 9 = .ok (.iload_n 1, 1) := by decide +kernel
theorem dX12_signAt_10 : decode cX12_signAt 10 = .ok (.imul, 1) := by decide +kernel
theorem dX12_signAt_11 : decode cX12_signAt 11 = .ok (.iadd, 1) := by decide +kernel
theorem dX12_signAt_12 : decode cX12_signAt 12 = .ok (.iload_n 2, 1) := by decide +kernel
theorem dX12_signAt_13 : decode cX12_signAt 13 = .ok (.ifCond .eq 7, 3) := by decide +kernel
theorem dX12_signAt_16 : decode cX12_signAt 16 = .ok (.iconst 0, 1) := by decide +kernel
theorem dX12_signAt_17 : decode cX12_signAt 17 = .ok (.goto 13, 3) := by decide +kernel
theorem dX12_signAt_20 : decode cX12_signAt 20 = .ok (.aload_n 0, 1) := by decide +kernel
theorem dX12_signAt_21 : decode cX12_signAt 21 = .ok (.getfield 7, 3) := by decide +kernel
theorem dX12_signAt_24 : decode cX12_signAt 24 = .ok (.sipush 252, 3) := by decide +kernel
theorem dX12_signAt_27 : decode cX12_signAt 27 = .ok (.iload_n 1, 1) := by decide +kernel
theorem dX12_signAt_28 : decode cX12_signAt 28 = .ok (.iadd, 1) := by decide +kernel
theorem dX12_signAt_29 : decode cX12_signAt 29 = .ok (.iaload, 1) := by decide +kernel
theorem dX12_signAt_30 : decode cX12_signAt 30 = .ok (.iadd, 1) := by decide +kernel
theorem dX12_signAt_31 : decode cX12_signAt 31 = .ok (.iload_n 3, 1) := by decide +kernel
theorem dX12_signAt_32 : decode cX12_signAt 32 = .ok (.iadd, 1) := by decide +kernel
theorem dX12_signAt_33 : decode cX12_signAt 33 = .ok (.iaload, 1) := by decide +kernel
theorem dX12_signAt_34 : decode cX12_signAt 34 = .ok (.ireturn, 1) := by decide +kernel
theorem dX12_sizeOf_0 : decode cX12_sizeOf 0 = .ok (.aload_n 0, 1) := by decide +kernel
theorem dX12_sizeOf_1 : decode cX12_sizeOf 1 = .ok (.getfield 7, 3) := by decide +kernel
theorem dX12_sizeOf_4 : decode cX12_sizeOf 4 = .ok (.iload_n 2, 1) := by decide +kernel
theorem dX12_sizeOf_5 : decode cX12_sizeOf 5 = .ok (.ifCond .eq 9, 3) := by decide +kernel
theorem dX12_sizeOf_8 : decode cX12_sizeOf 8 = .ok (.sipush 252, 3) := by decide +kernel
theorem dX12_sizeOf_11 : decode cX12_sizeOf 11 = .ok (.goto 6, 3) := by decide +kernel
theorem dX12_sizeOf_14 : decode cX12_sizeOf 14 = .ok (.sipush 258, 3) := by decide +kernel
theorem dX12_sizeOf_17 : decode cX12_sizeOf 17 = .ok (.iload_n 1, 1) := by decide +kernel
theorem dX12_sizeOf_18 : decode cX12_sizeOf 18 = .ok (.iadd, 1) := by decide +kernel
theorem dX12_sizeOf_19 : decode cX12_sizeOf 19 = .ok (.iaload, 1) := by decide +kernel
theorem dX12_sizeOf_20 : decode cX12_sizeOf 20 = .ok (.ireturn, 1) := by decide +kernel
theorem dX12_lettersOf_0 : decode cX12_lettersOf 0 = .ok (.iconst 0, 1) := by decide +kernel
theorem dX12_lettersOf_1 : decode cX12_lettersOf 1 = .ok (.istore_n 2, 1) := by decide +kernel
theorem dX12_lettersOf_2 : decode cX12_lettersOf 2 = .ok (.iconst 0, 1) := by decide +kernel
theorem dX12_lettersOf_3 : decode cX12_lettersOf 3 = .ok (.istore_n 3, 1) := by decide +kernel
theorem dX12_lettersOf_4 : decode cX12_lettersOf 4 = .ok (.iload_n 3, 1) := by decide +kernel
theorem dX12_lettersOf_5 : decode cX12_lettersOf 5 = .ok (.aload_n 0, 1) := by decide +kernel
theorem dX12_lettersOf_6 : decode cX12_lettersOf 6 = .ok (.iload_n 1, 1) := by decide +kernel
theorem dX12_lettersOf_7 : decode cX12_lettersOf 7 = .ok (.iconst 1, 1) := by decide +kernel
theorem dX12_lettersOf_8 : decode cX12_lettersOf 8 = .ok (.invokevirtual 133, 3) := by decide +kernel
theorem dX12_lettersOf_11 : decode cX12_lettersOf 11 = .ok (.if_icmp .ge 40, 3) := by decide +kernel
theorem dX12_lettersOf_14 : decode cX12_lettersOf 14 = .ok (.iload_n 2, 1) := by decide +kernel
theorem dX12_lettersOf_15 : decode cX12_lettersOf 15 = .ok (.aload_n 0, 1) := by decide +kernel
theorem dX12_lettersOf_16 : decode cX12_lettersOf 16 = .ok (.iload_n 1, 1) := by decide +kernel
theorem dX12_lettersOf_17 : decode cX12_lettersOf 17 = .ok (.iconst 1, 1) := by decide +kernel
theorem dX12_lettersOf_18 : decode cX12_lettersOf 18 = .ok (.iload_n 3, 1) := by decide +kernel
theorem dX12_lettersOf_19 : decode cX12_lettersOf 19 = .ok (.invokevirtual 137, 3) := by decide +kernel
theorem dX12_lettersOf_22 : decode cX12_lettersOf 22 = .ok (.bipush 7, 2) := by decide +kernel
theorem dX12_lettersOf_24 : decode cX12_lettersOf 24 = .ok (.if_icmp .lt 18, 3) := by decide +kernel
theorem dX12_lettersOf_27 : decode cX12_lettersOf 27 = .ok (.iconst 1, 1) := by decide +kernel
theorem dX12_lettersOf_28 : decode cX12_lettersOf 28 = .ok (.aload_n 0, 1) := by decide +kernel
theorem dX12_lettersOf_29 : decode cX12_lettersOf 29 = .ok (.iload_n 1, 1) := by decide +kernel
theorem dX12_lettersOf_30 : decode cX12_lettersOf 30 = .ok (.iconst 1, 1) := by decide +kernel
theorem dX12_lettersOf_31 : decode cX12_lettersOf 31 = .ok (.iload_n 3, 1) := by decide +kernel
theorem dX12_lettersOf_32 : decode cX12_lettersOf 32 = .ok (.invokevirtual 137, 3) := by decide +kernel
theorem dX12_lettersOf_35 : decode cX12_lettersOf 35 = .ok (.bipush 7, 2) := by decide +kernel
theorem dX12_lettersOf_37 : decode cX12_lettersOf 37 = .ok (.isub, 1) := by decide +kernel
theorem dX12_lettersOf_38 : decode cX12_lettersOf 38 = .ok (.ishl, 1) := by decide +kernel
theorem dX12_lettersOf_39 : decode cX12_lettersOf 39 = .ok (.goto 4, 3) := by decide +kernel
theorem dX12_lettersOf_42 : decode cX12_lettersOf 42 = .ok (.iconst 0, 1) := by decide +kernel
theorem dX12_lettersOf_43 : decode cX12_lettersOf 43 = .ok (.ior, 1) := by decide +kernel
theorem dX12_lettersOf_44 : decode cX12_lettersOf 44 = .ok (.istore_n 2, 1) := by decide +kernel
theorem dX12_lettersOf_45 : decode cX12_lettersOf 45 = .ok (.iinc 3 1, 3) := by decide +kernel
theorem dX12_lettersOf_48 : decode cX12_lettersOf 48 = .ok (.goto (-44), 3) := by decide +kernel
theorem dX12_lettersOf_51 : decode cX12_lettersOf 51 = .ok (.iload_n 2, 1) := by decide +kernel
theorem dX12_lettersOf_52 : decode cX12_lettersOf 52 = .ok (.ireturn, 1) := by decide +kernel
theorem dX12_signsOf_0 : decode cX12_signsOf 0 = .ok (.iconst 0, 1) := by decide +kernel
theorem dX12_signsOf_1 : decode cX12_signsOf 1 = .ok (.istore_n 3, 1) := by decide +kernel
theorem dX12_signsOf_2 : decode cX12_signsOf 2 = .ok (.iconst 0, 1) := by decide +kernel
theorem dX12_signsOf_3 : decode cX12_signsOf 3 = .ok (.istore 4, 2) := by decide +kernel
theorem dX12_signsOf_5 : decode cX12_signsOf 5 = .ok (.iload 4, 2) := by decide +kernel
theorem dX12_signsOf_7 : decode cX12_signsOf 7 = .ok (.aload_n 0, 1) := by decide +kernel
theorem dX12_signsOf_8 : decode cX12_signsOf 8 = .ok (.iload_n 1, 1) := by decide +kernel
theorem dX12_signsOf_9 : decode cX12_signsOf 9 = .ok (.iload_n 2, 1) := by decide +kernel
theorem dX12_signsOf_10 : decode cX12_signsOf 10 = .ok (.invokevirtual 133, 3) := by decide +kernel
theorem dX12_signsOf_13 : decode cX12_signsOf 13 = .ok (.if_icmp .ge 30, 3) := by decide +kernel
theorem dX12_signsOf_16 : decode cX12_signsOf 16 = .ok (.iload_n 3, 1) := by decide +kernel
theorem dX12_signsOf_17 : decode cX12_signsOf 17 = .ok (.aload_n 0, 1) := by decide +kernel
theorem dX12_signsOf_18 : decode cX12_signsOf 18 = .ok (.iload_n 1, 1) := by decide +kernel
theorem dX12_signsOf_19 : decode cX12_signsOf 19 = .ok (.iload_n 2, 1) := by decide +kernel
theorem dX12_signsOf_20 : decode cX12_signsOf 20 = .ok (.iload 4, 2) := by decide +kernel
theorem dX12_signsOf_22 : decode cX12_signsOf 22 = .ok (.invokevirtual 137, 3) := by decide +kernel
theorem dX12_signsOf_25 : decode cX12_signsOf 25 = .ok (.bipush 7, 2) := by decide +kernel
theorem dX12_signsOf_27 : decode cX12_signsOf 27 = .ok (.if_icmp .ge 7, 3) := by decide +kernel
theorem dX12_signsOf_30 : decode cX12_signsOf 30 = .ok (.iconst 1, 1) := by decide +kernel
theorem dX12_signsOf_31 : decode cX12_signsOf 31 = .ok (.goto 4, 3) := by decide +kernel
theorem dX12_signsOf_34 : decode cX12_signsOf 34 = .ok (.iconst 0, 1) := by decide +kernel
theorem dX12_signsOf_35 : decode cX12_signsOf 35 = .ok (.iadd, 1) := by decide +kernel
theorem dX12_signsOf_36 : decode cX12_signsOf 36 = .ok (.istore_n 3, 1) := by decide +kernel
theorem dX12_signsOf_37 : decode cX12_signsOf 37 = .ok (.iinc 4 1, 3) := by decide +kernel
theorem dX12_signsOf_40 : decode cX12_signsOf 40 = .ok (.goto (-35), 3) := by decide +kernel
theorem dX12_signsOf_43 : decode cX12_signsOf 43 = .ok (.iload_n 3, 1) := by decide +kernel
theorem dX12_signsOf_44 : decode cX12_signsOf 44 = .ok (.ireturn, 1) := by decide +kernel
theorem dX12_table_0 : decode cX12_table 0 = .ok (.iconst 0, 1) := by decide +kernel
theorem dX12_table_1 : decode cX12_table 1 = .ok (.istore_n 1, 1) := by decide +kernel
theorem dX12_table_2 : decode cX12_table 2 = .ok (.iload_n 1, 1) := by decide +kernel
theorem dX12_table_3 : decode cX12_table 3 = .ok (.iconst 4, 1) := by decide +kernel
theorem dX12_table_4 : decode cX12_table 4 = .ok (.if_icmp .ge 16, 3) := by decide +kernel
theorem dX12_table_7 : decode cX12_table 7 = .ok (.aload_n 0, 1) := by decide +kernel
theorem dX12_table_8 : decode cX12_table 8 = .ok (.getfield 49, 3) := by decide +kernel
theorem dX12_table_11 : decode cX12_table 11 = .ok (.iload_n 1, 1) := by decide +kernel
theorem dX12_table_12 : decode cX12_table 12 = .ok (.iconst (-1), 1) := by decide +kernel
theorem dX12_table_13 : decode cX12_table 13 = .ok (.iastore, 1) := by decide +kernel
theorem dX12_table_14 : decode cX12_table 14 = .ok (.iinc 1 1, 3) := by decide +kernel
theorem dX12_table_17 : decode cX12_table 17 = .ok (.goto (-15), 3) := by decide +kernel
theorem dX12_table_20 : decode cX12_table 20 = .ok (.iconst 0, 1) := by decide +kernel
theorem dX12_table_21 : decode cX12_table 21 = .ok (.istore_n 1, 1) := by decide +kernel
theorem dX12_table_22 : decode cX12_table 22 = .ok (.iload_n 1, 1) := by decide +kernel
theorem dX12_table_23 : decode cX12_table 23 = .ok (.bipush 100, 2) := by decide +kernel
theorem dX12_table_25 : decode cX12_table 25 = .ok (.if_icmp .ge 16, 3) := by decide +kernel
theorem dX12_table_28 : decode cX12_table 28 = .ok (.aload_n 0, 1) := by decide +kernel
theorem dX12_table_29 : decode cX12_table 29 = .ok (.getfield 52, 3) := by decide +kernel
theorem dX12_table_32 : decode cX12_table 32 = .ok (.iload_n 1, 1) := by decide +kernel
theorem dX12_table_33 : decode cX12_table 33 = .ok (.iconst (-1), 1) := by decide +kernel
theorem dX12_table_34 : decode cX12_table 34 = .ok (.iastore, 1) := by decide +kernel
theorem dX12_table_35 : decode cX12_table 35 = .ok (.iinc 1 1, 3) := by decide +kernel
theorem dX12_table_38 : decode cX12_table 38 = .ok (.goto (-16), 3) := by decide +kernel
theorem dX12_table_41 : decode cX12_table 41 = .ok (.iconst 0, 1) := by decide +kernel
theorem dX12_table_42 : decode cX12_table 42 = .ok (.istore_n 1, 1) := by decide +kernel
theorem dX12_table_43 : decode cX12_table 43 = .ok (.iload_n 1, 1) := by decide +kernel
theorem dX12_table_44 : decode cX12_table 44 = .ok (.sipush 2500, 3) := by decide +kernel
theorem dX12_table_47 : decode cX12_table 47 = .ok (.if_icmp .ge 16, 3) := by decide +kernel
theorem dX12_table_50 : decode cX12_table 50 = .ok (.aload_n 0, 1) := by decide +kernel
theorem dX12_table_51 : decode cX12_table 51 = .ok (.getfield 55, 3) := by decide +kernel
theorem dX12_table_54 : decode cX12_table 54 = .ok (.iload_n 1, 1) := by decide +kernel
theorem dX12_table_55 : decode cX12_table 55 = .ok (.iconst (-1), 1) := by decide +kernel
theorem dX12_table_56 : decode cX12_table 56 = .ok (.iastore, 1) := by decide +kernel
theorem dX12_table_57 : decode cX12_table 57 = .ok (.iinc 1 1, 3) := by decide +kernel
theorem dX12_table_60 : decode cX12_table 60 = .ok (.goto (-17), 3) := by decide +kernel
theorem dX12_table_63 : decode cX12_table 63 = .ok (.iconst 0, 1) := by decide +kernel
theorem dX12_table_64 : decode cX12_table 64 = .ok (.istore_n 1, 1) := by decide +kernel
theorem dX12_table_65 : decode cX12_table 65 = .ok (.iload_n 1, 1) := by decide +kernel
theorem dX12_table_66 : decode cX12_table 66 = .ok (.aload_n 0, 1) := by decide +kernel
theorem dX12_table_67 : decode cX12_table 67 = .ok (.getfield 7, 3) := by decide +kernel
theorem dX12_table_70 : decode cX12_table 70 = .ok (.iconst 0, 1) := by decide +kernel
theorem dX12_table_71 : decode cX12_table 71 = .ok (.iaload, 1) := by decide +kernel
theorem dX12_table_72 : decode cX12_table 72 = .ok (.if_icmp .ge 17, 3) := by decide +kernel
theorem dX12_table_75 : decode cX12_table 75 = .ok (.aload_n 0, 1) := by decide +kernel
theorem dX12_table_76 : decode cX12_table 76 = .ok (.getfield 58, 3) := by decide +kernel
theorem dX12_table_79 : decode cX12_table 79 = .ok (.iload_n 1, 1) := by decide +kernel
theorem dX12_table_80 : decode cX12_table 80 = .ok (.bipush 99, 2) := by decide +kernel
theorem dX12_table_82 : decode cX12_table 82 = .ok (.iastore, 1) := by decide +kernel
theorem dX12_table_83 : decode cX12_table 83 = .ok (.iinc 1 1, 3) := by decide +kernel
theorem dX12_table_86 : decode cX12_table 86 = .ok (.goto (-21), 3) := by decide +kernel
theorem dX12_table_89 : decode cX12_table 89 = .ok (.iconst 0, 1) := by decide +kernel
theorem dX12_table_90 : decode cX12_table 90 = .ok (.istore_n 1, 1) := by decide +kernel
theorem dX12_table_91 : decode cX12_table 91 = .ok (.iload_n 1, 1) := by decide +kernel
theorem dX12_table_92 : decode cX12_table 92 = .ok (.aload_n 0, 1) := by decide +kernel
theorem dX12_table_93 : decode cX12_table 93 = .ok (.getfield 7, 3) := by decide +kernel
theorem dX12_table_96 : decode cX12_table 96 = .ok (.iconst 0, 1) := by decide +kernel
theorem dX12_table_97 : decode cX12_table 97 = .ok (.iaload, 1) := by decide +kernel
theorem dX12_table_98 : decode cX12_table 98 = .ok (.if_icmp .ge 154, 3) := by decide +kernel
theorem dX12_table_101 : decode cX12_table 101 = .ok (.aload_n 0, 1) := by decide +kernel
theorem dX12_table_102 : decode cX12_table 102 = .ok (.getfield 7, 3) := by decide +kernel
theorem dX12_table_105 : decode cX12_table 105 = .ok (.iconst 2, 1) := by decide +kernel
theorem dX12_table_106 : decode cX12_table 106 = .ok (.iload_n 1, 1) := by decide +kernel
theorem dX12_table_107 : decode cX12_table 107 = .ok (.iadd, 1) := by decide +kernel
theorem dX12_table_108 : decode cX12_table 108 = .ok (.iaload, 1) := by decide +kernel
theorem dX12_table_109 : decode cX12_table 109 = .ok (.istore_n 2, 1) := by decide +kernel
theorem dX12_table_110 : decode cX12_table 110 = .ok (.aload_n 0, 1) := by decide +kernel
theorem dX12_table_111 : decode cX12_table 111 = .ok (.iload_n 1, 1) := by decide +kernel
theorem dX12_table_112 : decode cX12_table 112 = .ok (.invokevirtual 95, 3) := by decide +kernel
theorem dX12_table_115 : decode cX12_table 115 = .ok (.istore_n 3, 1) := by decide +kernel
theorem dX12_table_116 : decode cX12_table 116 = .ok (.iload_n 2, 1) := by decide +kernel
theorem dX12_table_117 : decode cX12_table 117 = .ok (.iconst 4, 1) := by decide +kernel
theorem dX12_table_118 : decode cX12_table 118 = .ok (.if_icmp .ge 13, 3) := by decide +kernel
theorem dX12_table_121 : decode cX12_table 121 = .ok (.aload_n 0, 1) := by decide +kernel
theorem dX12_table_122 : decode cX12_table 122 = .ok (.getfield 49, 3) := by decide +kernel
theorem dX12_table_125 : decode cX12_table 125 = .ok (.iload_n 2, 1) := by decide +kernel
theorem dX12_table_126 : decode cX12_table 126 = .ok (.iload_n 3, 1) := by decide +kernel
theorem dX12_table_127 : decode cX12_table 127 = .ok (.iastore, 1) := by decide +kernel
theorem dX12_table_128 : decode cX12_table 128 = .ok (.goto 74, 3) := by decide +kernel
theorem dX12_table_131 : decode cX12_table 131 = .ok (.iload_n 2, 1) := by decide +kernel
theorem dX12_table_132 : decode cX12_table 132 = .ok (.bipush 6, 2) := by decide +kernel
theorem dX12_table_134 : decode cX12_table 134 = .ok (.if_icmp .ge 32, 3) := by decide +kernel
theorem dX12_table_137 : decode cX12_table 137 = .ok (.aload_n 0, 1) := by decide +kernel
theorem dX12_table_138 : decode cX12_table 138 = .ok (.getfield 52, 3) := by decide +kernel
theorem dX12_table_141 : decode cX12_table 141 = .ok (.bipush 50, 2) := by decide +kernel
theorem dX12_table_143 : decode cX12_table 143 = .ok (.iload_n 2, 1) := by decide +kernel
theorem dX12_table_144 : decode cX12_table 144 = .ok (.iconst 4, 1) := by decide +kernel
theorem dX12_table_145 : decode cX12_table 145 = .ok (.isub, 1) := by decide +kernel
theorem dX12_table_146 : decode cX12_table 146 = .ok (.imul, 1) := by decide +kernel
theorem dX12_table_147 : decode cX12_table 147 = .ok (.aload_n 0, 1) := by decide +kernel
theorem dX12_table_148 : decode cX12_table 148 = .ok (.aload_n 0, 1) := by decide +kernel
theorem dX12_table_149 : decode cX12_table 149 = .ok (.getfield 7, 3) := by decide +kernel
theorem dX12_table_152 : decode cX12_table 152 = .ok (.bipush 52, 2) := by decide +kernel
theorem dX12_table_154 : decode cX12_table 154 = .ok (.iload_n 1, 1) := by decide +kernel
theorem dX12_table_155 : decode cX12_table 155 = .ok (.iadd, 1) := by decide +kernel
theorem dX12_table_156 : decode cX12_table 156 = .ok (.iaload, 1) := by decide +kernel
theorem dX12_table_157 : decode cX12_table 157 = .ok (.invokevirtual 95, 3) := by decide +kernel
theorem dX12_table_160 : decode cX12_table 160 = .ok (.iadd, 1) := by decide +kernel
theorem dX12_table_161 : decode cX12_table 161 = .ok (.iload_n 3, 1) := by decide +kernel
theorem dX12_table_162 : decode cX12_table 162 = .ok (.iastore, 1) := by decide +kernel
theorem dX12_table_163 : decode cX12_table 163 = .ok (.goto 39, 3) := by decide +kernel
theorem dX12_table_166 : decode cX12_table 166 = .ok (.aload_n 0, 1) := by decide +kernel
theorem dX12_table_167 : decode cX12_table 167 = .ok (.getfield 55, 3) := by decide +kernel
theorem dX12_table_170 : decode cX12_table 170 = .ok (.bipush 50, 2) := by decide +kernel
theorem dX12_table_172 : decode cX12_table 172 = .ok (.aload_n 0, 1) := by decide +kernel
theorem dX12_table_173 : decode cX12_table 173 = .ok (.aload_n 0, 1) := by decide +kernel
theorem dX12_table_174 : decode cX12_table 174 = .ok (.getfield 7, 3) := by decide +kernel
theorem dX12_table_177 : decode cX12_table 177 = .ok (.bipush 52, 2) := by decide +kernel
theorem dX12_table_179 : decode cX12_table 179 = .ok (.iload_n 1, 1) := by decide +kernel
theorem dX12_table_180 : decode cX12_table 180 = .ok (.iadd, 1) := by decide +kernel
theorem dX12_table_181 : decode cX12_table 181 = .ok (.iaload, 1) := by decide +kernel
theorem dX12_table_182 : decode cX12_table 182 = .ok (.invokevirtual 95, 3) := by decide +kernel
theorem dX12_table_185 : decode cX12_table 185 = .ok (.imul, 1) := by decide +kernel
theorem dX12_table_186 : decode cX12_table 186 = .ok (.aload_n 0, 1) := by decide +kernel
theorem dX12_table_187 : decode cX12_table 187 = .ok (.aload_n 0, 1) := by decide +kernel
theorem dX12_table_188 : decode cX12_table 188 = .ok (.getfield 7, 3) := by decide +kernel
theorem dX12_table_191 : decode cX12_table 191 = .ok (.bipush 102, 2) := by decide +kernel
theorem dX12_table_193 : decode cX12_table 193 = .ok (.iload_n 1, 1) := by decide +kernel
theorem dX12_table_194 : decode cX12_table 194 = .ok (.iadd, 1) := by decide +kernel
theorem dX12_table_195 : decode cX12_table 195 = .ok (.iaload, 1) := by decide +kernel
theorem dX12_table_196 : decode cX12_table 196 = .ok (.invokevirtual 95, 3) := by decide +kernel
theorem dX12_table_199 : decode cX12_table 199 = .ok (.iadd, 1) := by decide +kernel
theorem dX12_table_200 : decode cX12_table 200 = .ok (.iload_n 3, 1) := by decide +kernel
theorem dX12_table_201 : decode cX12_table 201 = .ok (.iastore, 1) := by decide +kernel
theorem dX12_table_202 : decode cX12_table 202 = .ok (.aload_n 0, 1) := by decide +kernel
theorem dX12_table_203 : decode cX12_table 203 = .ok (.getfield 58, 3) := by decide +kernel
theorem dX12_table_206 : decode cX12_table 206 = .ok (.iload_n 3, 1) := by decide +kernel
theorem dX12_table_207 : decode cX12_table 207 = .ok (.aload_n 0, 1) := by decide +kernel
theorem dX12_table_208 : decode cX12_table 208 = .ok (.getfield 7, 3) := by decide +kernel
theorem dX12_table_211 : decode cX12_table 211 = .ok (.sipush 152, 3) := by decide +kernel
theorem dX12_table_214 : decode cX12_table 214 = .ok (.iload_n 1, 1) := by decide +kernel
theorem dX12_table_215 : decode cX12_table 215 = .ok (.iadd, 1) := by decide +kernel
theorem dX12_table_216 : decode cX12_table 216 = .ok (.iaload, 1) := by decide +kernel
theorem dX12_table_217 : decode cX12_table 217 = .ok (.aload_n 0, 1) := by decide +kernel
theorem dX12_table_218 : decode cX12_table 218 = .ok (.getfield 58, 3) := by decide +kernel
theorem dX12_table_221 : decode cX12_table 221 = .ok (.iload_n 3, 1) := by decide +kernel
theorem dX12_table_222 : decode cX12_table 222 = .ok (.iaload, 1) := by decide +kernel
theorem dX12_table_223 : decode cX12_table 223 = .ok (.if_icmp .ge 16, 3) := by decide +kernel
theorem dX12_table_226 : decode cX12_table 226 = .ok (.aload_n 0, 1) := by decide +kernel
theorem dX12_table_227 : decode cX12_table 227 = .ok (.getfield 7, 3) := by decide +kernel
theorem dX12_table_230 : decode cX12_table 230 = .ok (.sipush 152, 3) := by decide +kernel
theorem dX12_table_233 : decode cX12_table 233 = .ok (.iload_n 1, 1) := by decide +kernel
theorem dX12_table_234 : decode cX12_table 234 = .ok (.iadd, 1) := by decide +kernel
theorem dX12_table_235 : decode cX12_table 235 = .ok (.iaload, 1) := by decide +kernel
theorem dX12_table_236 : decode cX12_table 236 = .ok (.goto 9, 3) := by decide +kernel
theorem dX12_table_239 : decode cX12_table 239 = .ok (.aload_n 0, 1) := by decide +kernel
theorem dX12_table_240 : decode cX12_table 240 = .ok (.getfield 58, 3) := by decide +kernel
theorem dX12_table_243 : decode cX12_table 243 = .ok (.iload_n 3, 1) := by decide +kernel
theorem dX12_table_244 : decode cX12_table 244 = .ok (.iaload, 1) := by decide +kernel
theorem dX12_table_245 : decode cX12_table 245 = .ok (.iastore, 1) := by decide +kernel
theorem dX12_table_246 : decode cX12_table 246 = .ok (.iinc 1 1, 3) := by decide +kernel
theorem dX12_table_249 : decode cX12_table 249 = .ok (.goto (-158), 3) := by decide +kernel
theorem dX12_table_252 : decode cX12_table 252 = .ok (.return_, 1) := by decide +kernel
theorem dX12_placeOf_0 : decode cX12_placeOf 0 = .ok (.iconst 0, 1) := by decide +kernel
theorem dX12_placeOf_1 : decode cX12_placeOf 1 = .ok (.istore_n 2, 1) := by decide +kernel
theorem dX12_placeOf_2 : decode cX12_placeOf 2 = .ok (.aload_n 0, 1) := by decide +kernel
theorem dX12_placeOf_3 : decode cX12_placeOf 3 = .ok (.iload_n 1, 1) := by decide +kernel
theorem dX12_placeOf_4 : decode cX12_placeOf 4 = .ok (.iconst 1, 1) := by decide +kernel
theorem dX12_placeOf_5 : decode cX12_placeOf 5 = .ok (.invokevirtual 133, 3) := by decide +kernel
theorem dX12_placeOf_8 : decode cX12_placeOf 8 = .ok (.iconst 1, 1) := by decide +kernel
theorem dX12_placeOf_9 : decode cX12_placeOf 9 = .ok (.isub, 1) := by decide +kernel
theorem dX12_placeOf_10 : decode cX12_placeOf 10 = .ok (.istore_n 3, 1) := by decide +kernel
theorem dX12_placeOf_11 : decode cX12_placeOf 11 = .ok (.iload_n 3, 1) := by decide +kernel
theorem dX12_placeOf_12 : decode cX12_placeOf 12 = .ok (.ifCond .lt 142, 3) := by decide +kernel
theorem dX12_placeOf_15 : decode cX12_placeOf 15 = .ok (.aload_n 0, 1) := by decide +kernel
theorem dX12_placeOf_16 : decode cX12_placeOf 16 = .ok (.iload_n 1, 1) := by decide +kernel
theorem dX12_placeOf_17 : decode cX12_placeOf 17 = .ok (.iconst 1, 1) := by decide +kernel
theorem dX12_placeOf_18 : decode cX12_placeOf 18 = .ok (.iload_n 3, 1) := by decide +kernel
theorem dX12_placeOf_19 : decode cX12_placeOf 19 = .ok (.invokevirtual 137, 3) := by decide +kernel
theorem dX12_placeOf_22 : decode cX12_placeOf 22 = .ok (.istore 4, 2) := by decide +kernel
theorem dX12_placeOf_24 : decode cX12_placeOf 24 = .ok (.iload 4, 2) := by decide +kernel
theorem dX12_placeOf_26 : decode cX12_placeOf 26 = .ok (.bipush 7, 2) := by decide +kernel
theorem dX12_placeOf_28 : decode cX12_placeOf 28 = .ok (.if_icmp .lt 18, 3) := by decide +kernel
theorem dX12_placeOf_31 : decode cX12_placeOf 31 = .ok (.aload_n 0, 1) := by decide +kernel
theorem dX12_placeOf_32 : decode cX12_placeOf 32 = .ok (.getfield 70, 3) := by decide +kernel
theorem dX12_placeOf_35 : decode cX12_placeOf 35 = .ok (.iload 4, 2) := by decide +kernel
theorem dX12_placeOf_37 : decode cX12_placeOf 37 = .ok (.bipush 7, 2) := by decide +kernel
theorem dX12_placeOf_39 : decode cX12_placeOf 39 = .ok (.isub, 1) := by decide +kernel
theorem dX12_placeOf_40 : decode cX12_placeOf 40 = .ok (.iaload, 1) := by decide +kernel
theorem dX12_placeOf_41 : decode cX12_placeOf 41 = .ok (.istore 5, 2) := by decide +kernel
theorem dX12_placeOf_43 : decode cX12_placeOf 43 = .ok (.goto 87, 3) := by decide +kernel
theorem dX12_placeOf_46 : decode cX12_placeOf 46 = .ok (.iload 4, 2) := by decide +kernel
theorem dX12_placeOf_48 : decode cX12_placeOf 48 = .ok (.invokestatic 106, 3) := by decide +kernel
theorem dX12_placeOf_51 : decode cX12_placeOf 51 = .ok (.ifCond .ne 15, 3) := by decide +kernel
theorem dX12_placeOf_54 : decode cX12_placeOf 54 = .ok (.aload_n 0, 1) := by decide +kernel
theorem dX12_placeOf_55 : decode cX12_placeOf 55 = .ok (.getfield 49, 3) := by decide +kernel
theorem dX12_placeOf_58 : decode cX12_placeOf 58 = .ok (.iload 4, 2) := by decide +kernel
theorem dX12_placeOf_60 : decode cX12_placeOf 60 = .ok (.iaload, 1) := by decide +kernel
theorem dX12_placeOf_61 : decode cX12_placeOf 61 = .ok (.istore 5, 2) := by decide +kernel
theorem dX12_placeOf_63 : decode cX12_placeOf 63 = .ok (.goto 67, 3) := by decide +kernel
theorem dX12_placeOf_66 : decode cX12_placeOf 66 = .ok (.iload 4, 2) := by decide +kernel
theorem dX12_placeOf_68 : decode cX12_placeOf 68 = .ok (.invokestatic 106, 3) := by decide +kernel
theorem dX12_placeOf_71 : decode cX12_placeOf 71 = .ok (.iconst 1, 1) := by decide +kernel
theorem dX12_placeOf_72 : decode cX12_placeOf 72 = .ok (.if_icmp .ne 30, 3) := by decide +kernel
theorem dX12_placeOf_75 : decode cX12_placeOf 75 = .ok (.iinc 2 (-1), 3) := by decide +kernel
theorem dX12_placeOf_78 : decode cX12_placeOf 78 = .ok (.aload_n 0, 1) := by decide +kernel
theorem dX12_placeOf_79 : decode cX12_placeOf 79 = .ok (.getfield 52, 3) := by decide +kernel
theorem dX12_placeOf_82 : decode cX12_placeOf 82 = .ok (.bipush 50, 2) := by decide +kernel
theorem dX12_placeOf_84 : decode cX12_placeOf 84 = .ok (.iload 4, 2) := by decide +kernel
theorem dX12_placeOf_86 : decode cX12_placeOf 86 = .ok (.iconst 4, 1) := by decide +kernel
theorem dX12_placeOf_87 : decode cX12_placeOf 87 = .ok (.isub, 1) := by decide +kernel
theorem dX12_placeOf_88 : decode cX12_placeOf 88 = .ok (.imul, 1) := by decide +kernel
theorem dX12_placeOf_89 : decode cX12_placeOf 89 = .ok (.aload_n 0, 1) := by decide +kernel
theorem dX12_placeOf_90 : decode cX12_placeOf 90 = .ok (.getfield 67, 3) := by decide +kernel
theorem dX12_placeOf_93 : decode cX12_placeOf 93 = .ok (.iload_n 2, 1) := by decide +kernel
theorem dX12_placeOf_94 : decode cX12_placeOf 94 = .ok (.iaload, 1) := by decide +kernel
theorem dX12_placeOf_95 : decode cX12_placeOf 95 = .ok (.iadd, 1) := by decide +kernel
theorem dX12_placeOf_96 : decode cX12_placeOf 96 = .ok (.iaload, 1) := by decide +kernel
theorem dX12_placeOf_97 : decode cX12_placeOf 97 = .ok (.istore 5, 2) := by decide +kernel
theorem dX12_placeOf_99 : decode cX12_placeOf 99 = .ok (.goto 31, 3) := by decide +kernel
theorem dX12_placeOf_102 : decode cX12_placeOf 102 = .ok (.iinc 2 (-2), 3) := by decide +kernel
theorem dX12_placeOf_105 : decode cX12_placeOf 105 = .ok (.aload_n 0, 1) := by decide +kernel
theorem dX12_placeOf_106 : decode cX12_placeOf 106 = .ok (.getfield 55, 3) := by decide +kernel
theorem dX12_placeOf_109 : decode cX12_placeOf 109 = .ok (.bipush 50, 2) := by decide +kernel
theorem dX12_placeOf_111 : decode cX12_placeOf 111 = .ok (.aload_n 0, 1) := by decide +kernel
theorem dX12_placeOf_112 : decode cX12_placeOf 112 = .ok (.getfield 67, 3) := by decide +kernel
theorem dX12_placeOf_115 : decode cX12_placeOf 115 = .ok (.iload_n 2, 1) := by decide +kernel
theorem dX12_placeOf_116 : decode cX12_placeOf 116 = .ok (.iconst 1, 1) := by decide +kernel
theorem dX12_placeOf_117 : decode cX12_placeOf 117 = .ok (.iadd, 1) := by decide +kernel
theorem dX12_placeOf_118 : decode cX12_placeOf 118 = .ok (.iaload, 1) := by decide +kernel
theorem dX12_placeOf_119 : decode cX12_placeOf 119 = .ok (.imul, 1) := by decide +kernel
theorem dX12_placeOf_120 : decode cX12_placeOf 120 = .ok (.aload_n 0, 1) := by decide +kernel
theorem dX12_placeOf_121 : decode cX12_placeOf 121 = .ok (.getfield 67, 3) := by decide +kernel
theorem dX12_placeOf_124 : decode cX12_placeOf 124 = .ok (.iload_n 2, 1) := by decide +kernel
theorem dX12_placeOf_125 : decode cX12_placeOf 125 = .ok (.iaload, 1) := by decide +kernel
theorem dX12_placeOf_126 : decode cX12_placeOf 126 = .ok (.iadd, 1) := by decide +kernel
theorem dX12_placeOf_127 : decode cX12_placeOf 127 = .ok (.iaload, 1) := by decide +kernel
theorem dX12_placeOf_128 : decode cX12_placeOf 128 = .ok (.istore 5, 2) := by decide +kernel
theorem dX12_placeOf_130 : decode cX12_placeOf 130 = .ok (.iload 5, 2) := by decide +kernel
theorem dX12_placeOf_132 : decode cX12_placeOf 132 = .ok (.ifCond .ge 5, 3) := by decide +kernel
theorem dX12_placeOf_135 : decode cX12_placeOf 135 = .ok (.iconst (-1), 1) := by decide +kernel
theorem dX12_placeOf_136 : decode cX12_placeOf 136 = .ok (.ireturn, 1) := by decide +kernel
theorem dX12_placeOf_137 : decode cX12_placeOf 137 = .ok (.aload_n 0, 1) := by decide +kernel
theorem dX12_placeOf_138 : decode cX12_placeOf 138 = .ok (.getfield 67, 3) := by decide +kernel
theorem dX12_placeOf_141 : decode cX12_placeOf 141 = .ok (.iload_n 2, 1) := by decide +kernel
theorem dX12_placeOf_142 : decode cX12_placeOf 142 = .ok (.iload 5, 2) := by decide +kernel
theorem dX12_placeOf_144 : decode cX12_placeOf 144 = .ok (.iastore, 1) := by decide +kernel
theorem dX12_placeOf_145 : decode cX12_placeOf 145 = .ok (.iinc 2 1, 3) := by decide +kernel
theorem dX12_placeOf_148 : decode cX12_placeOf 148 = .ok (.iinc 3 (-1), 3) := by decide +kernel
theorem dX12_placeOf_151 : decode cX12_placeOf 151 = .ok (.goto (-140), 3) := by decide +kernel
theorem dX12_placeOf_154 : decode cX12_placeOf 154 = .ok (.aload_n 0, 1) := by decide +kernel
theorem dX12_placeOf_155 : decode cX12_placeOf 155 = .ok (.getfield 67, 3) := by decide +kernel
theorem dX12_placeOf_158 : decode cX12_placeOf 158 = .ok (.iconst 0, 1) := by decide +kernel
theorem dX12_placeOf_159 : decode cX12_placeOf 159 = .ok (.iaload, 1) := by decide +kernel
theorem dX12_placeOf_160 : decode cX12_placeOf 160 = .ok (.ireturn, 1) := by decide +kernel
theorem dX12_meets_0 : decode cX12_meets 0 = .ok (.aload_n 0, 1) := by decide +kernel
theorem dX12_meets_1 : decode cX12_meets 1 = .ok (.iload_n 1, 1) := by decide +kernel
theorem dX12_meets_2 : decode cX12_meets 2 = .ok (.invokevirtual 141, 3) := by decide +kernel
theorem dX12_meets_5 : decode cX12_meets 5 = .ok (.istore_n 2, 1) := by decide +kernel
theorem dX12_meets_6 : decode cX12_meets 6 = .ok (.iload_n 2, 1) := by decide +kernel
theorem dX12_meets_7 : decode cX12_meets 7 = .ok (.ifCond .lt 15, 3) := by decide +kernel
theorem dX12_meets_10 : decode cX12_meets 10 = .ok (.aload_n 0, 1) := by decide +kernel
theorem dX12_meets_11 : decode cX12_meets 11 = .ok (.getfield 64, 3) := by decide +kernel
theorem dX12_meets_14 : decode cX12_meets 14 = .ok (.iload_n 1, 1) := by decide +kernel
theorem dX12_meets_15 : decode cX12_meets 15 = .ok (.iaload, 1) := by decide +kernel
theorem dX12_meets_16 : decode cX12_meets 16 = .ok (.sipush 200, 3) := by decide +kernel
theorem dX12_meets_19 : decode cX12_meets 19 = .ok (.if_icmp .ne 4, 3) := by decide +kernel
theorem dX12_meets_22 : decode cX12_meets 22 = .ok (.return_, 1) := by decide +kernel
theorem dX12_meets_23 : decode cX12_meets 23 = .ok (.aload_n 0, 1) := by decide +kernel
theorem dX12_meets_24 : decode cX12_meets 24 = .ok (.getfield 58, 3) := by decide +kernel
theorem dX12_meets_27 : decode cX12_meets 27 = .ok (.iload_n 2, 1) := by decide +kernel
theorem dX12_meets_28 : decode cX12_meets 28 = .ok (.iaload, 1) := by decide +kernel
theorem dX12_meets_29 : decode cX12_meets 29 = .ok (.istore_n 3, 1) := by decide +kernel
theorem dX12_meets_30 : decode cX12_meets 30 = .ok (.iconst 0, 1) := by decide +kernel
theorem dX12_meets_31 : decode cX12_meets 31 = .ok (.istore 4, 2) := by decide +kernel
theorem dX12_meets_33 : decode cX12_meets 33 = .ok (.iload 4, 2) := by decide +kernel
theorem dX12_meets_35 : decode cX12_meets 35 = .ok (.iconst 3, 1) := by decide +kernel
theorem dX12_meets_36 : decode cX12_meets 36 = .ok (.if_icmp .ge 52, 3) := by decide +kernel
theorem dX12_meets_39 : decode cX12_meets 39 = .ok (.aload_n 0, 1) := by decide +kernel
theorem dX12_meets_40 : decode cX12_meets 40 = .ok (.getfield 70, 3) := by decide +kernel
theorem dX12_meets_43 : decode cX12_meets 43 = .ok (.iload 4, 2) := by decide +kernel
theorem dX12_meets_45 : decode cX12_meets 45 = .ok (.iaload, 1) := by decide +kernel
theorem dX12_meets_46 : decode cX12_meets 46 = .ok (.ifCond .lt 34, 3) := by decide +kernel
theorem dX12_meets_49 : decode cX12_meets 49 = .ok (.aload_n 0, 1) := by decide +kernel
theorem dX12_meets_50 : decode cX12_meets 50 = .ok (.getfield 58, 3) := by decide +kernel
theorem dX12_meets_53 : decode cX12_meets 53 = .ok (.aload_n 0, 1) := by decide +kernel
theorem dX12_meets_54 : decode cX12_meets 54 = .ok (.getfield 70, 3) := by decide +kernel
theorem dX12_meets_57 : decode cX12_meets 57 = .ok (.iload 4, 2) := by decide +kernel
theorem dX12_meets_59 : decode cX12_meets 59 = .ok (.iaload, 1) := by decide +kernel
theorem dX12_meets_60 : decode cX12_meets 60 = .ok (.iaload, 1) := by decide +kernel
theorem dX12_meets_61 : decode cX12_meets 61 = .ok (.iload_n 3, 1) := by decide +kernel
theorem dX12_meets_62 : decode cX12_meets 62 = .ok (.if_icmp .le 18, 3) := by decide +kernel
theorem dX12_meets_65 : decode cX12_meets 65 = .ok (.aload_n 0, 1) := by decide +kernel
theorem dX12_meets_66 : decode cX12_meets 66 = .ok (.getfield 58, 3) := by decide +kernel
theorem dX12_meets_69 : decode cX12_meets 69 = .ok (.aload_n 0, 1) := by decide +kernel
theorem dX12_meets_70 : decode cX12_meets 70 = .ok (.getfield 70, 3) := by decide +kernel
theorem dX12_meets_73 : decode cX12_meets 73 = .ok (.iload 4, 2) := by decide +kernel
theorem dX12_meets_75 : decode cX12_meets 75 = .ok (.iaload, 1) := by decide +kernel
theorem dX12_meets_76 : decode cX12_meets 76 = .ok (.iaload, 1) := by decide +kernel
theorem dX12_meets_77 : decode cX12_meets 77 = .ok (.goto 4, 3) := by decide +kernel
theorem dX12_meets_80 : decode cX12_meets 80 = .ok (.iload_n 3, 1) := by decide +kernel
theorem dX12_meets_81 : decode cX12_meets 81 = .ok (.istore_n 3, 1) := by decide +kernel
theorem dX12_meets_82 : decode cX12_meets 82 = .ok (.iinc 4 1, 3) := by decide +kernel
theorem dX12_meets_85 : decode cX12_meets 85 = .ok (.goto (-52), 3) := by decide +kernel
theorem dX12_meets_88 : decode cX12_meets 88 = .ok (.sipush 1000, 3) := by decide +kernel
theorem dX12_meets_91 : decode cX12_meets 91 = .ok (.iload_n 1, 1) := by decide +kernel
theorem dX12_meets_92 : decode cX12_meets 92 = .ok (.imul, 1) := by decide +kernel
theorem dX12_meets_93 : decode cX12_meets 93 = .ok (.iconst 5, 1) := by decide +kernel
theorem dX12_meets_94 : decode cX12_meets 94 = .ok (.aload_n 0, 1) := by decide +kernel
theorem dX12_meets_95 : decode cX12_meets 95 = .ok (.getfield 64, 3) := by decide +kernel
theorem dX12_meets_98 : decode cX12_meets 98 = .ok (.iload_n 1, 1) := by decide +kernel
theorem dX12_meets_99 : decode cX12_meets 99 = .ok (.iaload, 1) := by decide +kernel
theorem dX12_meets_100 : decode cX12_meets 100 = .ok (.imul, 1) := by decide +kernel
theorem dX12_meets_101 : decode cX12_meets 101 = .ok (.iadd, 1) := by decide +kernel
theorem dX12_meets_102 : decode cX12_meets 102 = .ok (.istore 4, 2) := by decide +kernel
theorem dX12_meets_104 : decode cX12_meets 104 = .ok (.aload_n 0, 1) := by decide +kernel
theorem dX12_meets_105 : decode cX12_meets 105 = .ok (.getfield 61, 3) := by decide +kernel
theorem dX12_meets_108 : decode cX12_meets 108 = .ok (.iload 4, 2) := by decide +kernel
theorem dX12_meets_110 : decode cX12_meets 110 = .ok (.aload_n 0, 1) := by decide +kernel
theorem dX12_meets_111 : decode cX12_meets 111 = .ok (.getfield 70, 3) := by decide +kernel
theorem dX12_meets_114 : decode cX12_meets 114 = .ok (.iconst 0, 1) := by decide +kernel
theorem dX12_meets_115 : decode cX12_meets 115 = .ok (.iaload, 1) := by decide +kernel
theorem dX12_meets_116 : decode cX12_meets 116 = .ok (.iastore, 1) := by decide +kernel
theorem dX12_meets_117 : decode cX12_meets 117 = .ok (.aload_n 0, 1) := by decide +kernel
theorem dX12_meets_118 : decode cX12_meets 118 = .ok (.getfield 61, 3) := by decide +kernel
theorem dX12_meets_121 : decode cX12_meets 121 = .ok (.iload 4, 2) := by decide +kernel
theorem dX12_meets_123 : decode cX12_meets 123 = .ok (.iconst 1, 1) := by decide +kernel
theorem dX12_meets_124 : decode cX12_meets 124 = .ok (.iadd, 1) := by decide +kernel
theorem dX12_meets_125 : decode cX12_meets 125 = .ok (.aload_n 0, 1) := by decide +kernel
theorem dX12_meets_126 : decode cX12_meets 126 = .ok (.getfield 70, 3) := by decide +kernel
theorem dX12_meets_129 : decode cX12_meets 129 = .ok (.iconst 1, 1) := by decide +kernel
theorem dX12_meets_130 : decode cX12_meets 130 = .ok (.iaload, 1) := by decide +kernel
theorem dX12_meets_131 : decode cX12_meets 131 = .ok (.iastore, 1) := by decide +kernel
theorem dX12_meets_132 : decode cX12_meets 132 = .ok (.aload_n 0, 1) := by decide +kernel
theorem dX12_meets_133 : decode cX12_meets 133 = .ok (.getfield 61, 3) := by decide +kernel
theorem dX12_meets_136 : decode cX12_meets 136 = .ok (.iload 4, 2) := by decide +kernel
theorem dX12_meets_138 : decode cX12_meets 138 = .ok (.iconst 2, 1) := by decide +kernel
theorem dX12_meets_139 : decode cX12_meets 139 = .ok (.iadd, 1) := by decide +kernel
theorem dX12_meets_140 : decode cX12_meets 140 = .ok (.aload_n 0, 1) := by decide +kernel
theorem dX12_meets_141 : decode cX12_meets 141 = .ok (.getfield 70, 3) := by decide +kernel
theorem dX12_meets_144 : decode cX12_meets 144 = .ok (.iconst 2, 1) := by decide +kernel
