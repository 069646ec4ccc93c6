theorem dX12_meets_145 : decode cX12_meets 145 = .ok (.iaload, 1) := by decide +kernel
theorem dX12_meets_146 : decode cX12_meets 146 = .ok (.iastore, 1) := by decide +kernel
theorem dX12_meets_147 : decode cX12_meets 147 = .ok (.aload_n 0, 1) := by decide +kernel
theorem dX12_meets_148 : decode cX12_meets 148 = .ok (.getfield 61, 3) := by decide +kernel
theorem dX12_meets_151 : decode cX12_meets 151 = .ok (.iload 4, 2) := by decide +kernel
theorem dX12_meets_153 : decode cX12_meets 153 = .ok (.iconst 3, 1) := by decide +kernel
theorem dX12_meets_154 : decode cX12_meets 154 = .ok (.iadd, 1) := by decide +kernel
theorem dX12_meets_155 : decode cX12_meets 155 = .ok (.iload_n 2, 1) := by decide +kernel
theorem dX12_meets_156 : decode cX12_meets 156 = .ok (.iastore, 1) := by decide +kernel
theorem dX12_meets_157 : decode cX12_meets 157 = .ok (.aload_n 0, 1) := by decide +kernel
theorem dX12_meets_158 : decode cX12_meets 158 = .ok (.getfield 61, 3) := by decide +kernel
theorem dX12_meets_161 : decode cX12_meets 161 = .ok (.iload 4, 2) := by decide +kernel
theorem dX12_meets_163 : decode cX12_meets 163 = .ok (.iconst 4, 1) := by decide +kernel
theorem dX12_meets_164 : decode cX12_meets 164 = .ok (.iadd, 1) := by decide +kernel
theorem dX12_meets_165 : decode cX12_meets 165 = .ok (.iload_n 3, 1) := by decide +kernel
theorem dX12_meets_166 : decode cX12_meets 166 = .ok (.iconst 1, 1) := by decide +kernel
theorem dX12_meets_167 : decode cX12_meets 167 = .ok (.iadd, 1) := by decide +kernel
theorem dX12_meets_168 : decode cX12_meets 168 = .ok (.iastore, 1) := by decide +kernel
theorem dX12_meets_169 : decode cX12_meets 169 = .ok (.aload_n 0, 1) := by decide +kernel
theorem dX12_meets_170 : decode cX12_meets 170 = .ok (.getfield 64, 3) := by decide +kernel
theorem dX12_meets_173 : decode cX12_meets 173 = .ok (.iload_n 1, 1) := by decide +kernel
theorem dX12_meets_174 : decode cX12_meets 174 = .ok (.dup2, 1) := by decide +kernel
theorem dX12_meets_175 : decode cX12_meets 175 = .ok (.iaload, 1) := by decide +kernel
theorem dX12_meets_176 : decode cX12_meets 176 = .ok (.iconst 1, 1) := by decide +kernel
theorem dX12_meets_177 : decode cX12_meets 177 = .ok (.iadd, 1) := by decide +kernel
theorem dX12_meets_178 : decode cX12_meets 178 = .ok (.iastore, 1) := by decide +kernel
theorem dX12_meets_179 : decode cX12_meets 179 = .ok (.return_, 1) := by decide +kernel
theorem dX12_isStand_0 : decode cX12_isStand 0 = .ok (.iload_n 1, 1) := by decide +kernel
theorem dX12_isStand_1 : decode cX12_isStand 1 = .ok (.iload_n 2, 1) := by decide +kernel
theorem dX12_isStand_2 : decode cX12_isStand 2 = .ok (.ishr, 1) := by decide +kernel
theorem dX12_isStand_3 : decode cX12_isStand 3 = .ok (.iconst 1, 1) := by decide +kernel
theorem dX12_isStand_4 : decode cX12_isStand 4 = .ok (.iand, 1) := by decide +kernel
theorem dX12_isStand_5 : decode cX12_isStand 5 = .ok (.ifCond .ne 15, 3) := by decide +kernel
theorem dX12_isStand_8 : decode cX12_isStand 8 = .ok (.iload_n 3, 1) := by decide +kernel
theorem dX12_isStand_9 : decode cX12_isStand 9 = .ok (.ifCond .ge 7, 3) := by decide +kernel
theorem dX12_isStand_12 : decode cX12_isStand 12 = .ok (.iconst 1, 1) := by decide +kernel
theorem dX12_isStand_13 : decode cX12_isStand 13 = .ok (.goto 25, 3) := by decide +kernel
theorem dX12_isStand_16 : decode cX12_isStand 16 = .ok (.iconst 0, 1) := by decide +kernel
theorem dX12_isStand_17 : decode cX12_isStand 17 = .ok (.goto 21, 3) := by decide +kernel
theorem dX12_isStand_20 : decode cX12_isStand 20 = .ok (.iload_n 3, 1) := by decide +kernel
theorem dX12_isStand_21 : decode cX12_isStand 21 = .ok (.ifCond .lt 16, 3) := by decide +kernel
theorem dX12_isStand_24 : decode cX12_isStand 24 = .ok (.aload_n 0, 1) := by decide +kernel
theorem dX12_isStand_25 : decode cX12_isStand 25 = .ok (.iload_n 3, 1) := by decide +kernel
theorem dX12_isStand_26 : decode cX12_isStand 26 = .ok (.invokevirtual 95, 3) := by decide +kernel
theorem dX12_isStand_29 : decode cX12_isStand 29 = .ok (.iload_n 3, 1) := by decide +kernel
theorem dX12_isStand_30 : decode cX12_isStand 30 = .ok (.if_icmp .ne 7, 3) := by decide +kernel
theorem dX12_isStand_33 : decode cX12_isStand 33 = .ok (.iconst 1, 1) := by decide +kernel
theorem dX12_isStand_34 : decode cX12_isStand 34 = .ok (.goto 4, 3) := by decide +kernel
theorem dX12_isStand_37 : decode cX12_isStand 37 = .ok (.iconst 0, 1) := by decide +kernel
theorem dX12_isStand_38 : decode cX12_isStand 38 = .ok (.ireturn, 1) := by decide +kernel
theorem dX12_finds_0 : decode cX12_finds 0 = .ok (.aload_n 0, 1) := by decide +kernel
theorem dX12_finds_1 : decode cX12_finds 1 = .ok (.getfield 64, 3) := by decide +kernel
theorem dX12_finds_4 : decode cX12_finds 4 = .ok (.iload_n 1, 1) := by decide +kernel
theorem dX12_finds_5 : decode cX12_finds 5 = .ok (.iconst 0, 1) := by decide +kernel
theorem dX12_finds_6 : decode cX12_finds 6 = .ok (.iastore, 1) := by decide +kernel
theorem dX12_finds_7 : decode cX12_finds 7 = .ok (.aload_n 0, 1) := by decide +kernel
theorem dX12_finds_8 : decode cX12_finds 8 = .ok (.iload_n 1, 1) := by decide +kernel
theorem dX12_finds_9 : decode cX12_finds 9 = .ok (.invokevirtual 144, 3) := by decide +kernel
theorem dX12_finds_12 : decode cX12_finds 12 = .ok (.istore_n 2, 1) := by decide +kernel
theorem dX12_finds_13 : decode cX12_finds 13 = .ok (.aload_n 0, 1) := by decide +kernel
theorem dX12_finds_14 : decode cX12_finds 14 = .ok (.getfield 7, 3) := by decide +kernel
theorem dX12_finds_17 : decode cX12_finds 17 = .ok (.iconst 0, 1) := by decide +kernel
theorem dX12_finds_18 : decode cX12_finds 18 = .ok (.iaload, 1) := by decide +kernel
theorem dX12_finds_19 : decode cX12_finds 19 = .ok (.istore_n 3, 1) := by decide +kernel
theorem dX12_finds_20 : decode cX12_finds 20 = .ok (.iconst (-1), 1) := by decide +kernel
theorem dX12_finds_21 : decode cX12_finds 21 = .ok (.istore 4, 2) := by decide +kernel
theorem dX12_finds_23 : decode cX12_finds 23 = .ok (.iload 4, 2) := by decide +kernel
theorem dX12_finds_25 : decode cX12_finds 25 = .ok (.iload_n 3, 1) := by decide +kernel
theorem dX12_finds_26 : decode cX12_finds 26 = .ok (.if_icmp .ge 125, 3) := by decide +kernel
theorem dX12_finds_29 : decode cX12_finds 29 = .ok (.aload_n 0, 1) := by decide +kernel
theorem dX12_finds_30 : decode cX12_finds 30 = .ok (.getfield 64, 3) := by decide +kernel
theorem dX12_finds_33 : decode cX12_finds 33 = .ok (.iload_n 1, 1) := by decide +kernel
theorem dX12_finds_34 : decode cX12_finds 34 = .ok (.iaload, 1) := by decide +kernel
theorem dX12_finds_35 : decode cX12_finds 35 = .ok (.sipush 200, 3) := by decide +kernel
theorem dX12_finds_38 : decode cX12_finds 38 = .ok (.if_icmp .ge 113, 3) := by decide +kernel
theorem dX12_finds_41 : decode cX12_finds 41 = .ok (.iconst (-1), 1) := by decide +kernel
theorem dX12_finds_42 : decode cX12_finds 42 = .ok (.istore 5, 2) := by decide +kernel
theorem dX12_finds_44 : decode cX12_finds 44 = .ok (.iload 5, 2) := by decide +kernel
theorem dX12_finds_46 : decode cX12_finds 46 = .ok (.iload_n 3, 1) := by decide +kernel
theorem dX12_finds_47 : decode cX12_finds 47 = .ok (.if_icmp .ge 98, 3) := by decide +kernel
theorem dX12_finds_50 : decode cX12_finds 50 = .ok (.aload_n 0, 1) := by decide +kernel
theorem dX12_finds_51 : decode cX12_finds 51 = .ok (.iload_n 2, 1) := by decide +kernel
theorem dX12_finds_52 : decode cX12_finds 52 = .ok (.iconst 0, 1) := by decide +kernel
theorem dX12_finds_53 : decode cX12_finds 53 = .ok (.iload 4, 2) := by decide +kernel
theorem dX12_finds_55 : decode cX12_finds 55 = .ok (.invokevirtual 147, 3) := by decide +kernel
theorem dX12_finds_58 : decode cX12_finds 58 = .ok (.ifCond .eq 87, 3) := by decide +kernel
theorem dX12_finds_61 : decode cX12_finds 61 = .ok (.aload_n 0, 1) := by decide +kernel
theorem dX12_finds_62 : decode cX12_finds 62 = .ok (.getfield 64, 3) := by decide +kernel
theorem dX12_finds_65 : decode cX12_finds 65 = .ok (.iload_n 1, 1) := by decide +kernel
theorem dX12_finds_66 : decode cX12_finds 66 = .ok (.iaload, 1) := by decide +kernel
theorem dX12_finds_67 : decode cX12_finds 67 = .ok (.sipush 200, 3) := by decide +kernel
theorem dX12_finds_70 : decode cX12_finds 70 = .ok (.if_icmp .ge 75, 3) := by decide +kernel
theorem dX12_finds_73 : decode cX12_finds 73 = .ok (.iconst (-1), 1) := by decide +kernel
theorem dX12_finds_74 : decode cX12_finds 74 = .ok (.istore 6, 2) := by decide +kernel
theorem dX12_finds_76 : decode cX12_finds 76 = .ok (.iload 6, 2) := by decide +kernel
theorem dX12_finds_78 : decode cX12_finds 78 = .ok (.iload_n 3, 1) := by decide +kernel
theorem dX12_finds_79 : decode cX12_finds 79 = .ok (.if_icmp .ge 60, 3) := by decide +kernel
theorem dX12_finds_82 : decode cX12_finds 82 = .ok (.aload_n 0, 1) := by decide +kernel
theorem dX12_finds_83 : decode cX12_finds 83 = .ok (.iload_n 2, 1) := by decide +kernel
theorem dX12_finds_84 : decode cX12_finds 84 = .ok (.iconst 1, 1) := by decide +kernel
theorem dX12_finds_85 : decode cX12_finds 85 = .ok (.iload 5, 2) := by decide +kernel
theorem dX12_finds_87 : decode cX12_finds 87 = .ok (.invokevirtual 147, 3) := by decide +kernel
theorem dX12_finds_90 : decode cX12_finds 90 = .ok (.ifCond .eq 49, 3) := by decide +kernel
theorem dX12_finds_93 : decode cX12_finds 93 = .ok (.aload_n 0, 1) := by decide +kernel
theorem dX12_finds_94 : decode cX12_finds 94 = .ok (.iload_n 2, 1) := by decide +kernel
theorem dX12_finds_95 : decode cX12_finds 95 = .ok (.iconst 2, 1) := by decide +kernel
theorem dX12_finds_96 : decode cX12_finds 96 = .ok (.iload 6, 2) := by decide +kernel
theorem dX12_finds_98 : decode cX12_finds 98 = .ok (.invokevirtual 147, 3) := by decide +kernel
theorem dX12_finds_101 : decode cX12_finds 101 = .ok (.ifCond .eq 32, 3) := by decide +kernel
theorem dX12_finds_104 : decode cX12_finds 104 = .ok (.aload_n 0, 1) := by decide +kernel
theorem dX12_finds_105 : decode cX12_finds 105 = .ok (.getfield 70, 3) := by decide +kernel
theorem dX12_finds_108 : decode cX12_finds 108 = .ok (.iconst 0, 1) := by decide +kernel
theorem dX12_finds_109 : decode cX12_finds 109 = .ok (.iload 4, 2) := by decide +kernel
theorem dX12_finds_111 : decode cX12_finds 111 = .ok (.iastore, 1) := by decide +kernel
theorem dX12_finds_112 : decode cX12_finds 112 = .ok (.aload_n 0, 1) := by decide +kernel
theorem dX12_finds_113 : decode cX12_finds 113 = .ok (.getfield 70, 3) := by decide +kernel
theorem dX12_finds_116 : decode cX12_finds 116 = .ok (.iconst 1, 1) := by decide +kernel
theorem dX12_finds_117 : decode cX12_finds 117 = .ok (.iload 5, 2) := by decide +kernel
theorem dX12_finds_119 : decode cX12_finds 119 = .ok (.iastore, 1) := by decide +kernel
theorem dX12_finds_120 : decode cX12_finds 120 = .ok (.aload_n 0, 1) := by decide +kernel
theorem dX12_finds_121 : decode cX12_finds 121 = .ok (.getfield 70, 3) := by decide +kernel
theorem dX12_finds_124 : decode cX12_finds 124 = .ok (.iconst 2, 1) := by decide +kernel
theorem dX12_finds_125 : decode cX12_finds 125 = .ok (.iload 6, 2) := by decide +kernel
theorem dX12_finds_127 : decode cX12_finds 127 = .ok (.iastore, 1) := by decide +kernel
theorem dX12_finds_128 : decode cX12_finds 128 = .ok (.aload_n 0, 1) := by decide +kernel
theorem dX12_finds_129 : decode cX12_finds 129 = .ok (.iload_n 1, 1) := by decide +kernel
theorem dX12_finds_130 : decode cX12_finds 130 = .ok (.invokevirtual 150, 3) := by decide +kernel
theorem dX12_finds_133 : decode cX12_finds 133 = .ok (.iinc 6 1, 3) := by decide +kernel
theorem dX12_finds_136 : decode cX12_finds 136 = .ok (.goto (-60), 3) := by decide +kernel
theorem dX12_finds_139 : decode cX12_finds 139 = .ok (.iinc 5 1, 3) := by decide +kernel
theorem dX12_finds_142 : decode cX12_finds 142 = .ok (.goto (-98), 3) := by decide +kernel
theorem dX12_finds_145 : decode cX12_finds 145 = .ok (.iinc 4 1, 3) := by decide +kernel
theorem dX12_finds_148 : decode cX12_finds 148 = .ok (.goto (-125), 3) := by decide +kernel
theorem dX12_finds_151 : decode cX12_finds 151 = .ok (.return_, 1) := by decide +kernel
theorem dX12_rule_0 : decode cX12_rule 0 = .ok (.aload_n 0, 1) := by decide +kernel
theorem dX12_rule_1 : decode cX12_rule 1 = .ok (.iload_n 1, 1) := by decide +kernel
theorem dX12_rule_2 : decode cX12_rule 2 = .ok (.invokevirtual 154, 3) := by decide +kernel
theorem dX12_rule_5 : decode cX12_rule 5 = .ok (.ifCond .eq 12, 3) := by decide +kernel
theorem dX12_rule_8 : decode cX12_rule 8 = .ok (.iload_n 2, 1) := by decide +kernel
theorem dX12_rule_9 : decode cX12_rule 9 = .ok (.iconst 0, 1) := by decide +kernel
theorem dX12_rule_10 : decode cX12_rule 10 = .ok (.iconst 4, 1) := by decide +kernel
theorem dX12_rule_11 : decode cX12_rule 11 = .ok (.invokestatic 79, 3) := by decide +kernel
theorem dX12_rule_14 : decode cX12_rule 14 = .ok (.ifCond .ne 10, 3) := by decide +kernel
theorem dX12_rule_17 : decode cX12_rule 17 = .ok (.aload_n 0, 1) := by decide +kernel
theorem dX12_rule_18 : decode cX12_rule 18 = .ok (.bipush (-2), 2) := by decide +kernel
theorem dX12_rule_20 : decode cX12_rule 20 = .ok (.invokevirtual 113, 3) := by decide +kernel
theorem dX12_rule_23 : decode cX12_rule 23 = .ok (.ireturn, 1) := by decide +kernel
theorem dX12_rule_24 : decode cX12_rule 24 = .ok (.iload_n 2, 1) := by decide +kernel
theorem dX12_rule_25 : decode cX12_rule 25 = .ok (.ifCond .ne 23, 3) := by decide +kernel
theorem dX12_rule_28 : decode cX12_rule 28 = .ok (.aload_n 0, 1) := by decide +kernel
theorem dX12_rule_29 : decode cX12_rule 29 = .ok (.iload_n 1, 1) := by decide +kernel
theorem dX12_rule_30 : decode cX12_rule 30 = .ok (.invokevirtual 144, 3) := by decide +kernel
theorem dX12_rule_33 : decode cX12_rule 33 = .ok (.istore_n 3, 1) := by decide +kernel
theorem dX12_rule_34 : decode cX12_rule 34 = .ok (.iload_n 3, 1) := by decide +kernel
theorem dX12_rule_35 : decode cX12_rule 35 = .ok (.iconst 1, 1) := by decide +kernel
theorem dX12_rule_36 : decode cX12_rule 36 = .ok (.iand, 1) := by decide +kernel
theorem dX12_rule_37 : decode cX12_rule 37 = .ok (.iload_n 3, 1) := by decide +kernel
theorem dX12_rule_38 : decode cX12_rule 38 = .ok (.iconst 1, 1) := by decide +kernel
theorem dX12_rule_39 : decode cX12_rule 39 = .ok (.ishr, 1) := by decide +kernel
theorem dX12_rule_40 : decode cX12_rule 40 = .ok (.iconst 1, 1) := by decide +kernel
theorem dX12_rule_41 : decode cX12_rule 41 = .ok (.iand, 1) := by decide +kernel
theorem dX12_rule_42 : decode cX12_rule 42 = .ok (.iadd, 1) := by decide +kernel
theorem dX12_rule_43 : decode cX12_rule 43 = .ok (.iload_n 3, 1) := by decide +kernel
theorem dX12_rule_44 : decode cX12_rule 44 = .ok (.iconst 2, 1) := by decide +kernel
theorem dX12_rule_45 : decode cX12_rule 45 = .ok (.ishr, 1) := by decide +kernel
theorem dX12_rule_46 : decode cX12_rule 46 = .ok (.iadd, 1) := by decide +kernel
theorem dX12_rule_47 : decode cX12_rule 47 = .ok (.ireturn, 1) := by decide +kernel
theorem dX12_rule_48 : decode cX12_rule 48 = .ok (.iload_n 2, 1) := by decide +kernel
theorem dX12_rule_49 : decode cX12_rule 49 = .ok (.iconst 3, 1) := by decide +kernel
theorem dX12_rule_50 : decode cX12_rule 50 = .ok (.if_icmp .ge 19, 3) := by decide +kernel
theorem dX12_rule_53 : decode cX12_rule 53 = .ok (.aload_n 0, 1) := by decide +kernel
theorem dX12_rule_54 : decode cX12_rule 54 = .ok (.iload_n 1, 1) := by decide +kernel
theorem dX12_rule_55 : decode cX12_rule 55 = .ok (.iload_n 2, 1) := by decide +kernel
theorem dX12_rule_56 : decode cX12_rule 56 = .ok (.iconst 1, 1) := by decide +kernel
theorem dX12_rule_57 : decode cX12_rule 57 = .ok (.if_icmp .ne 7, 3) := by decide +kernel
theorem dX12_rule_60 : decode cX12_rule 60 = .ok (.iconst 1, 1) := by decide +kernel
theorem dX12_rule_61 : decode cX12_rule 61 = .ok (.goto 4, 3) := by decide +kernel
theorem dX12_rule_64 : decode cX12_rule 64 = .ok (.iconst 0, 1) := by decide +kernel
theorem dX12_rule_65 : decode cX12_rule 65 = .ok (.invokevirtual 157, 3) := by decide +kernel
theorem dX12_rule_68 : decode cX12_rule 68 = .ok (.ireturn, 1) := by decide +kernel
theorem dX12_rule_69 : decode cX12_rule 69 = .ok (.aload_n 0, 1) := by decide +kernel
theorem dX12_rule_70 : decode cX12_rule 70 = .ok (.invokevirtual 160, 3) := by decide +kernel
theorem dX12_rule_73 : decode cX12_rule 73 = .ok (.aload_n 0, 1) := by decide +kernel
theorem dX12_rule_74 : decode cX12_rule 74 = .ok (.iload_n 1, 1) := by decide +kernel
theorem dX12_rule_75 : decode cX12_rule 75 = .ok (.invokevirtual 163, 3) := by decide +kernel
theorem dX12_rule_78 : decode cX12_rule 78 = .ok (.iconst 0, 1) := by decide +kernel
theorem dX12_rule_79 : decode cX12_rule 79 = .ok (.istore_n 3, 1) := by decide +kernel
theorem dX12_rule_80 : decode cX12_rule 80 = .ok (.iconst 0, 1) := by decide +kernel
theorem dX12_rule_81 : decode cX12_rule 81 = .ok (.istore 4, 2) := by decide +kernel
theorem dX12_rule_83 : decode cX12_rule 83 = .ok (.iload 4, 2) := by decide +kernel
theorem dX12_rule_85 : decode cX12_rule 85 = .ok (.aload_n 0, 1) := by decide +kernel
theorem dX12_rule_86 : decode cX12_rule 86 = .ok (.getfield 64, 3) := by decide +kernel
theorem dX12_rule_89 : decode cX12_rule 89 = .ok (.iload_n 1, 1) := by decide +kernel
theorem dX12_rule_90 : decode cX12_rule 90 = .ok (.iaload, 1) := by decide +kernel
theorem dX12_rule_91 : decode cX12_rule 91 = .ok (.if_icmp .ge 48, 3) := by decide +kernel
theorem dX12_rule_94 : decode cX12_rule 94 = .ok (.iload_n 3, 1) := by decide +kernel
theorem dX12_rule_95 : decode cX12_rule 95 = .ok (.iload_n 2, 1) := by decide +kernel
theorem dX12_rule_96 : decode cX12_rule 96 = .ok (.iconst 3, 1) := by decide +kernel
theorem dX12_rule_97 : decode cX12_rule 97 = .ok (.if_icmp .eq 29, 3) := by decide +kernel
theorem dX12_rule_100 : decode cX12_rule 100 = .ok (.aload_n 0, 1) := by decide +kernel
theorem dX12_rule_101 : decode cX12_rule 101 = .ok (.getfield 61, 3) := by decide +kernel
theorem dX12_rule_104 : decode cX12_rule 104 = .ok (.sipush 1000, 3) := by decide +kernel
theorem dX12_rule_107 : decode cX12_rule 107 = .ok (.iload_n 1, 1) := by decide +kernel
theorem dX12_rule_108 : decode cX12_rule 108 = .ok (.imul, 1) := by decide +kernel
theorem dX12_rule_109 : decode cX12_rule 109 = .ok (.iconst 5, 1) := by decide +kernel
theorem dX12_rule_110 : decode cX12_rule 110 = .ok (.iload 4, 2) := by decide +kernel
theorem dX12_rule_112 : decode cX12_rule 112 = .ok (.imul, 1) := by decide +kernel
theorem dX12_rule_113 : decode cX12_rule 113 = .ok (.iadd, 1) := by decide +kernel
theorem dX12_rule_114 : decode cX12_rule 114 = .ok (.iconst 4, 1) := by decide +kernel
theorem dX12_rule_115 : decode cX12_rule 115 = .ok (.iadd, 1) := by decide +kernel
theorem dX12_rule_116 : decode cX12_rule 116 = .ok (.iaload, 1) := by decide +kernel
theorem dX12_rule_117 : decode cX12_rule 117 = .ok (.aload_n 0, 1) := by decide +kernel
theorem dX12_rule_118 : decode cX12_rule 118 = .ok (.getfield 19, 3) := by decide +kernel
theorem dX12_rule_121 : decode cX12_rule 121 = .ok (.iconst 1, 1) := by decide +kernel
theorem dX12_rule_122 : decode cX12_rule 122 = .ok (.iaload, 1) := by decide +kernel
theorem dX12_rule_123 : decode cX12_rule 123 = .ok (.if_icmp .gt 7, 3) := by decide +kernel
theorem dX12_rule_126 : decode cX12_rule 126 = .ok (.iconst 1, 1) := by decide +kernel
theorem dX12_rule_127 : decode cX12_rule 127 = .ok (.goto 4, 3) := by decide +kernel
theorem dX12_rule_130 : decode cX12_rule 130 = .ok (.iconst 0, 1) := by decide +kernel
theorem dX12_rule_131 : decode cX12_rule 131 = .ok (.iadd, 1) := by decide +kernel
theorem dX12_rule_132 : decode cX12_rule 132 = .ok (.istore_n 3, 1) := by decide +kernel
theorem dX12_rule_133 : decode cX12_rule 133 = .ok (.iinc 4 1, 3) := by decide +kernel
theorem dX12_rule_136 : decode cX12_rule 136 = .ok (.goto (-53), 3) := by decide +kernel
theorem dX12_rule_139 : decode cX12_rule 139 = .ok (.iload_n 3, 1) := by decide +kernel
theorem dX12_rule_140 : decode cX12_rule 140 = .ok (.ireturn, 1) := by decide +kernel
theorem dX12_finding_0 : decode cX12_finding 0 = .ok (.aload_n 0, 1) := by decide +kernel
theorem dX12_finding_1 : decode cX12_finding 1 = .ok (.iload_n 1, 1) := by decide +kernel
theorem dX12_finding_2 : decode cX12_finding 2 = .ok (.invokevirtual 154, 3) := by decide +kernel
theorem dX12_finding_5 : decode cX12_finding 5 = .ok (.ifCond .eq 16, 3) := by decide +kernel
theorem dX12_finding_8 : decode cX12_finding 8 = .ok (.iload_n 2, 1) := by decide +kernel
theorem dX12_finding_9 : decode cX12_finding 9 = .ok (.ifCond .lt 12, 3) := by decide +kernel
theorem dX12_finding_12 : decode cX12_finding 12 = .ok (.iload_n 3, 1) := by decide +kernel
theorem dX12_finding_13 : decode cX12_finding 13 = .ok (.iconst 0, 1) := by decide +kernel
theorem dX12_finding_14 : decode cX12_finding 14 = .ok (.iconst 4, 1) := by decide +kernel
theorem dX12_finding_15 : decode cX12_finding 15 = .ok (.invokestatic 79, 3) := by decide +kernel
theorem dX12_finding_18 : decode cX12_finding 18 = .ok (.ifCond .ne 10, 3) := by decide +kernel
theorem dX12_finding_21 : decode cX12_finding 21 = .ok (.aload_n 0, 1) := by decide +kernel
theorem dX12_finding_22 : decode cX12_finding 22 = .ok (.bipush (-2), 2) := by decide +kernel
theorem dX12_finding_24 : decode cX12_finding 24 = .ok (.invokevirtual 113, 3) := by decide +kernel
theorem dX12_finding_27 : decode cX12_finding 27 = .ok (.ireturn, 1) := by decide +kernel
theorem dX12_finding_28 : decode cX12_finding 28 = .ok (.aload_n 0, 1) := by decide +kernel
theorem dX12_finding_29 : decode cX12_finding 29 = .ok (.invokevirtual 160, 3) := by decide +kernel
theorem dX12_finding_32 : decode cX12_finding 32 = .ok (.aload_n 0, 1) := by decide +kernel
theorem dX12_finding_33 : decode cX12_finding 33 = .ok (.iload_n 1, 1) := by decide +kernel
theorem dX12_finding_34 : decode cX12_finding 34 = .ok (.invokevirtual 163, 3) := by decide +kernel
theorem dX12_finding_37 : decode cX12_finding 37 = .ok (.iload_n 2, 1) := by decide +kernel
theorem dX12_finding_38 : decode cX12_finding 38 = .ok (.aload_n 0, 1) := by decide +kernel
theorem dX12_finding_39 : decode cX12_finding 39 = .ok (.getfield 64, 3) := by decide +kernel
theorem dX12_finding_42 : decode cX12_finding 42 = .ok (.iload_n 1, 1) := by decide +kernel
theorem dX12_finding_43 : decode cX12_finding 43 = .ok (.iaload, 1) := by decide +kernel
theorem dX12_finding_44 : decode cX12_finding 44 = .ok (.if_icmp .ge 22, 3) := by decide +kernel
theorem dX12_finding_47 : decode cX12_finding 47 = .ok (.aload_n 0, 1) := by decide +kernel
theorem dX12_finding_48 : decode cX12_finding 48 = .ok (.getfield 61, 3) := by decide +kernel
theorem dX12_finding_51 : decode cX12_finding 51 = .ok (.sipush 1000, 3) := by decide +kernel
theorem dX12_finding_54 : decode cX12_finding 54 = .ok (.iload_n 1, 1) := by decide +kernel
theorem dX12_finding_55 : decode cX12_finding 55 = .ok (.imul, 1) := by decide +kernel
theorem dX12_finding_56 : decode cX12_finding 56 = .ok (.iconst 5, 1) := by decide +kernel
theorem dX12_finding_57 : decode cX12_finding 57 = .ok (.iload_n 2, 1) := by decide +kernel
theorem dX12_finding_58 : decode cX12_finding 58 = .ok (.imul, 1) := by decide +kernel
theorem dX12_finding_59 : decode cX12_finding 59 = .ok (.iadd, 1) := by decide +kernel
theorem dX12_finding_60 : decode cX12_finding 60 = .ok (.iload_n 3, 1) := by decide +kernel
theorem dX12_finding_61 : decode cX12_finding 61 = .ok (.iadd, 1) := by decide +kernel
theorem dX12_finding_62 : decode cX12_finding 62 = .ok (.iaload, 1) := by decide +kernel
theorem dX12_finding_63 : decode cX12_finding 63 = .ok (.goto 4, 3) := by decide +kernel
theorem dX12_finding_66 : decode cX12_finding 66 = .ok (.iconst (-1), 1) := by decide +kernel
theorem dX12_finding_67 : decode cX12_finding 67 = .ok (.ireturn, 1) := by decide +kernel
theorem dX12_drop_0 : decode cX12_drop 0 = .ok (.aload_n 0, 1) := by decide +kernel
theorem dX12_drop_1 : decode cX12_drop 1 = .ok (.iload_n 1, 1) := by decide +kernel
theorem dX12_drop_2 : decode cX12_drop 2 = .ok (.invokevirtual 154, 3) := by decide +kernel
theorem dX12_drop_5 : decode cX12_drop 5 = .ok (.ifCond .ne 10, 3) := by decide +kernel
theorem dX12_drop_8 : decode cX12_drop 8 = .ok (.aload_n 0, 1) := by decide +kernel
theorem dX12_drop_9 : decode cX12_drop 9 = .ok (.bipush (-2), 2) := by decide +kernel
theorem dX12_drop_11 : decode cX12_drop 11 = .ok (.invokevirtual 113, 3) := by decide +kernel
theorem dX12_drop_14 : decode cX12_drop 14 = .ok (.ireturn, 1) := by decide +kernel
theorem dX12_drop_15 : decode cX12_drop 15 = .ok (.aload_n 0, 1) := by decide +kernel
theorem dX12_drop_16 : decode cX12_drop 16 = .ok (.invokevirtual 116, 3) := by decide +kernel
theorem dX12_drop_19 : decode cX12_drop 19 = .ok (.iload_n 1, 1) := by decide +kernel
theorem dX12_drop_20 : decode cX12_drop 20 = .ok (.istore_n 2, 1) := by decide +kernel
theorem dX12_drop_21 : decode cX12_drop 21 = .ok (.iload_n 2, 1) := by decide +kernel
theorem dX12_drop_22 : decode cX12_drop 22 = .ok (.iconst 1, 1) := by decide +kernel
theorem dX12_drop_23 : decode cX12_drop 23 = .ok (.iadd, 1) := by decide +kernel
theorem dX12_drop_24 : decode cX12_drop 24 = .ok (.aload_n 0, 1) := by decide +kernel
theorem dX12_drop_25 : decode cX12_drop 25 = .ok (.getfield 7, 3) := by decide +kernel
theorem dX12_drop_28 : decode cX12_drop 28 = .ok (.iconst 1, 1) := by decide +kernel
theorem dX12_drop_29 : decode cX12_drop 29 = .ok (.iaload, 1) := by decide +kernel
theorem dX12_drop_30 : decode cX12_drop 30 = .ok (.if_icmp .ge 99, 3) := by decide +kernel
theorem dX12_drop_33 : decode cX12_drop 33 = .ok (.aload_n 0, 1) := by decide +kernel
theorem dX12_drop_34 : decode cX12_drop 34 = .ok (.getfield 7, 3) := by decide +kernel
theorem dX12_drop_37 : decode cX12_drop 37 = .ok (.sipush 252, 3) := by decide +kernel
theorem dX12_drop_40 : decode cX12_drop 40 = .ok (.iload_n 2, 1) := by decide +kernel
theorem dX12_drop_41 : decode cX12_drop 41 = .ok (.iadd, 1) := by decide +kernel
theorem dX12_drop_42 : decode cX12_drop 42 = .ok (.aload_n 0, 1) := by decide +kernel
theorem dX12_drop_43 : decode cX12_drop 43 = .ok (.getfield 7, 3) := by decide +kernel
theorem dX12_drop_46 : decode cX12_drop 46 = .ok (.sipush 252, 3) := by decide +kernel
theorem dX12_drop_49 : decode cX12_drop 49 = .ok (.iload_n 2, 1) := by decide +kernel
theorem dX12_drop_50 : decode cX12_drop 50 = .ok (.iadd, 1) := by decide +kernel
theorem dX12_drop_51 : decode cX12_drop 51 = .ok (.iconst 1, 1) := by decide +kernel
theorem dX12_drop_52 : decode cX12_drop 52 = .ok (.iadd, 1) := by decide +kernel
theorem dX12_drop_53 : decode cX12_drop 53 = .ok (.iaload, 1) := by decide +kernel
theorem dX12_drop_54 : decode cX12_drop 54 = .ok (.iastore, 1) := by decide +kernel
theorem dX12_drop_55 : decode cX12_drop 55 = .ok (.aload_n 0, 1) := by decide +kernel
theorem dX12_drop_56 : decode cX12_drop 56 = .ok (.getfield 7, 3) := by decide +kernel
theorem dX12_drop_59 : decode cX12_drop 59 = .ok (.sipush 258, 3) := by decide +kernel
theorem dX12_drop_62 : decode cX12_drop 62 = .ok (.iload_n 2, 1) := by decide +kernel
theorem dX12_drop_63 : decode cX12_drop 63 = .ok (.iadd, 1) := by decide +kernel
theorem dX12_drop_64 : decode cX12_drop 64 = .ok (.aload_n 0, 1) := by decide +kernel
theorem dX12_drop_65 : decode cX12_drop 65 = .ok (.getfield 7, 3) := by decide +kernel
theorem dX12_drop_68 : decode cX12_drop 68 = .ok (.sipush 258, 3) := by decide +kernel
theorem dX12_drop_71 : decode cX12_drop 71 = .ok (.iload_n 2, 1) := by decide +kernel
theorem dX12_drop_72 : decode cX12_drop 72 = .ok (.iadd, 1) := by decide +kernel
theorem dX12_drop_73 : decode cX12_drop 73 = .ok (.iconst 1, 1) := by decide +kernel
theorem dX12_drop_74 : decode cX12_drop 74 = .ok (.iadd, 1) := by decide +kernel
theorem dX12_drop_75 : decode cX12_drop 75 = .ok (.iaload, 1) := by decide +kernel
theorem dX12_drop_76 : decode cX12_drop 76 = .ok (.iastore, 1) := by decide +kernel
theorem dX12_drop_77 : decode cX12_drop 77 = .ok (.iconst 0, 1) := by decide +kernel
theorem dX12_drop_78 : decode cX12_drop 78 = .ok (.istore_n 3, 1) := by decide +kernel
theorem dX12_drop_79 : decode cX12_drop 79 = .ok (.iload_n 3, 1) := by decide +kernel
theorem dX12_drop_80 : decode cX12_drop 80 = .ok (.bipush 120, 2) := by decide +kernel
theorem dX12_drop_82 : decode cX12_drop 82 = .ok (.if_icmp .ge 41, 3) := by decide +kernel
theorem dX12_drop_85 : decode cX12_drop 85 = .ok (.aload_n 0, 1) := by decide +kernel
theorem dX12_drop_86 : decode cX12_drop 86 = .ok (.getfield 7, 3) := by decide +kernel
theorem dX12_drop_89 : decode cX12_drop 89 = .ok (.sipush 264, 3) := by decide +kernel
theorem dX12_drop_92 : decode cX12_drop 92 = .ok (.bipush 120, 2) := by decide +kernel
theorem dX12_drop_94 : decode cX12_drop 94 = .ok (.iload_n 2, 1) := by decide +kernel
theorem dX12_drop_95 : decode cX12_drop 95 = .ok (.imul, 1) := by decide +kernel
theorem dX12_drop_96 : decode cX12_drop 96 = .ok (.iadd, 1) := by decide +kernel
theorem dX12_drop_97 : decode cX12_drop 97 = .ok (.iload_n 3, 1) := by decide +kernel
theorem dX12_drop_98 : decode cX12_drop 98 = .ok (.iadd, 1) := by decide +kernel
theorem dX12_drop_99 : decode cX12_drop 99 = .ok (.aload_n 0, 1) := by decide +kernel
theorem dX12_drop_100 : decode cX12_drop 100 = .ok (.getfield 7, 3) := by decide +kernel
theorem dX12_drop_103 : decode cX12_drop 103 = .ok (.sipush 264, 3) := by decide +kernel
theorem dX12_drop_106 : decode cX12_drop 106 = .ok (.bipush 120, 2) := by decide +kernel
theorem dX12_drop_108 : decode cX12_drop 108 = .ok (.iload_n 2, 1) := by decide +kernel
theorem dX12_drop_109 : decode cX12_drop 109 = .ok (.iconst 1, 1) := by decide +kernel
theorem dX12_drop_110 : decode cX12_drop 110 = .ok (.iadd, 1) := by decide +kernel
theorem dX12_drop_111 : decode cX12_drop 111 = .ok (.imul, 1) := by decide +kernel
theorem dX12_drop_112 : decode cX12_drop 112 = .ok (.iadd, 1) := by decide +kernel
theorem dX12_drop_113 : decode cX12_drop 113 = .ok (.iload_n 3, 1) := by decide +kernel
theorem dX12_drop_114 : decode cX12_drop 114 = .ok (.iadd, 1) := by decide +kernel
theorem dX12_drop_115 : decode cX12_drop 115 = .ok (.iaload, 1) := by decide +kernel
theorem dX12_drop_116 : decode cX12_drop 116 = .ok (.iastore, 1) := by decide +kernel
theorem dX12_drop_117 : decode cX12_drop 117 = .ok (.iinc 3 1, 3) := by decide +kernel
theorem dX12_drop_120 : decode cX12_drop 120 = .ok (.goto (-41), 3) := by decide +kernel
theorem dX12_drop_123 : decode cX12_drop 123 = .ok (.iinc 2 1, 3) := by decide +kernel
theorem dX12_drop_126 : decode cX12_drop 126 = .ok (.goto (-105), 3) := by decide +kernel
theorem dX12_drop_129 : decode cX12_drop 129 = .ok (.aload_n 0, 1) := by decide +kernel
theorem dX12_drop_130 : decode cX12_drop 130 = .ok (.getfield 7, 3) := by decide +kernel
theorem dX12_drop_133 : decode cX12_drop 133 = .ok (.iconst 1, 1) := by decide +kernel
theorem dX12_drop_134 : decode cX12_drop 134 = .ok (.dup2, 1) := by decide +kernel
theorem dX12_drop_135 : decode cX12_drop 135 = .ok (.iaload, 1) := by decide +kernel
theorem dX12_drop_136 : decode cX12_drop 136 = .ok (.iconst 1, 1) := by decide +kernel
theorem dX12_drop_137 : decode cX12_drop 137 = .ok (.isub, 1) := by decide +kernel
theorem dX12_drop_138 : decode cX12_drop 138 = .ok (.iastore, 1) := by decide +kernel
theorem dX12_drop_139 : decode cX12_drop 139 = .ok (.aload_n 0, 1) := by decide +kernel
theorem dX12_drop_140 : decode cX12_drop 140 = .ok (.getfield 7, 3) := by decide +kernel
theorem dX12_drop_143 : decode cX12_drop 143 = .ok (.iconst 1, 1) := by decide +kernel
theorem dX12_drop_144 : decode cX12_drop 144 = .ok (.iaload, 1) := by decide +kernel
theorem dX12_drop_145 : decode cX12_drop 145 = .ok (.ireturn, 1) := by decide +kernel
theorem dX12_sets_0 : decode cX12_sets 0 = .ok (.iload_n 1, 1) := by decide +kernel
theorem dX12_sets_1 : decode cX12_sets 1 = .ok (.iconst 0, 1) := by decide +kernel
theorem dX12_sets_2 : decode cX12_sets 2 = .ok (.iconst 1, 1) := by decide +kernel
theorem dX12_sets_3 : decode cX12_sets 3 = .ok (.invokestatic 79, 3) := by decide +kernel
theorem dX12_sets_6 : decode cX12_sets 6 = .ok (.ifCond .eq 21, 3) := by decide +kernel
theorem dX12_sets_9 : decode cX12_sets 9 = .ok (.iload_n 2, 1) := by decide +kernel
theorem dX12_sets_10 : decode cX12_sets 10 = .ok (.iconst 0, 1) := by decide +kernel
theorem dX12_sets_11 : decode cX12_sets 11 = .ok (.iload_n 1, 1) := by decide +kernel
theorem dX12_sets_12 : decode cX12_sets 12 = .ok (.ifCond .ne 7, 3) := by decide +kernel
theorem dX12_sets_15 : decode cX12_sets 15 = .ok (.iconst 3, 1) := by decide +kernel
theorem dX12_sets_16 : decode cX12_sets 16 = .ok (.goto 5, 3) := by decide +kernel
theorem dX12_sets_19 : decode cX12_sets 19 = .ok (.bipush 9, 2) := by decide +kernel
theorem dX12_sets_21 : decode cX12_sets 21 = .ok (.invokestatic 79, 3) := by decide +kernel
theorem dX12_sets_24 : decode cX12_sets 24 = .ok (.ifCond .ne 10, 3) := by decide +kernel
theorem dX12_sets_27 : decode cX12_sets 27 = .ok (.aload_n 0, 1) := by decide +kernel
theorem dX12_sets_28 : decode cX12_sets 28 = .ok (.bipush (-2), 2) := by decide +kernel
theorem dX12_sets_30 : decode cX12_sets 30 = .ok (.invokevirtual 113, 3) := by decide +kernel
theorem dX12_sets_33 : decode cX12_sets 33 = .ok (.ireturn, 1) := by decide +kernel
theorem dX12_sets_34 : decode cX12_sets 34 = .ok (.aload_n 0, 1) := by decide +kernel
theorem dX12_sets_35 : decode cX12_sets 35 = .ok (.getfield 19, 3) := by decide +kernel
theorem dX12_sets_38 : decode cX12_sets 38 = .ok (.iload_n 1, 1) := by decide +kernel
theorem dX12_sets_39 : decode cX12_sets 39 = .ok (.iaload, 1) := by decide +kernel
theorem dX12_sets_40 : decode cX12_sets 40 = .ok (.istore_n 3, 1) := by decide +kernel
theorem dX12_sets_41 : decode cX12_sets 41 = .ok (.aload_n 0, 1) := by decide +kernel
theorem dX12_sets_42 : decode cX12_sets 42 = .ok (.getfield 19, 3) := by decide +kernel
theorem dX12_sets_45 : decode cX12_sets 45 = .ok (.iload_n 1, 1) := by decide +kernel
theorem dX12_sets_46 : decode cX12_sets 46 = .ok (.iload_n 2, 1) := by decide +kernel
theorem dX12_sets_47 : decode cX12_sets 47 = .ok (.iastore, 1) := by decide +kernel
theorem dX12_sets_48 : decode cX12_sets 48 = .ok (.iload_n 3, 1) := by decide +kernel
theorem dX12_sets_49 : decode cX12_sets 49 = .ok (.ireturn, 1) := by decide +kernel
theorem dX12_waiting_0 : decode cX12_waiting 0 = .ok (.iload_n 2, 1) := by decide +kernel
theorem dX12_waiting_1 : decode cX12_waiting 1 = .ok (.istore 4, 2) := by decide +kernel
theorem dX12_waiting_3 : decode cX12_waiting 3 = .ok (.iload_n 1, 1) := by decide +kernel
theorem dX12_waiting_4 : decode cX12_waiting 4 = .ok (.istore 5, 2) := by decide +kernel
theorem dX12_waiting_6 : decode cX12_waiting 6 = .ok (.iload 5, 2) := by decide +kernel
theorem dX12_waiting_8 : decode cX12_waiting 8 = .ok (.ifCond .le 108, 3) := by decide +kernel
theorem dX12_waiting_11 : decode cX12_waiting 11 = .ok (.aload_n 0, 1) := by decide +kernel
theorem dX12_waiting_12 : decode cX12_waiting 12 = .ok (.getfield 40, 3) := by decide +kernel
theorem dX12_waiting_15 : decode cX12_waiting 15 = .ok (.iload 5, 2) := by decide +kernel
theorem dX12_waiting_17 : decode cX12_waiting 17 = .ok (.iconst 1, 1) := by decide +kernel
theorem dX12_waiting_18 : decode cX12_waiting 18 = .ok (.isub, 1) := by decide +kernel
theorem dX12_waiting_19 : decode cX12_waiting 19 = .ok (.iaload, 1) := by decide +kernel
theorem dX12_waiting_20 : decode cX12_waiting 20 = .ok (.bipush 6, 2) := by decide +kernel
theorem dX12_waiting_22 : decode cX12_waiting 22 = .ok (.if_icmp .ne 34, 3) := by decide +kernel
theorem dX12_waiting_25 : decode cX12_waiting 25 = .ok (.aload_n 0, 1) := by decide +kernel
theorem dX12_waiting_26 : decode cX12_waiting 26 = .ok (.getfield 43, 3) := by decide +kernel
theorem dX12_waiting_29 : decode cX12_waiting 29 = .ok (.iload 5, 2) := by decide +kernel
theorem dX12_waiting_31 : decode cX12_waiting 31 = .ok (.iconst 1, 1) := by decide +kernel
theorem dX12_waiting_32 : decode cX12_waiting 32 = .ok (.isub, 1) := by decide +kernel
theorem dX12_waiting_33 : decode cX12_waiting 33 = .ok (.iaload, 1) := by decide +kernel
theorem dX12_waiting_34 : decode cX12_waiting 34 = .ok (.ifCond .ge 22, 3) := by decide +kernel
theorem dX12_waiting_37 : decode cX12_waiting 37 = .ok (.aload_n 0, 1) := by decide +kernel
theorem dX12_waiting_38 : decode cX12_waiting 38 = .ok (.getfield 43, 3) := by decide +kernel
theorem dX12_waiting_41 : decode cX12_waiting 41 = .ok (.iload 5, 2) := by decide +kernel
theorem dX12_waiting_43 : decode cX12_waiting 43 = .ok (.iconst 1, 1) := by decide +kernel
theorem dX12_waiting_44 : decode cX12_waiting 44 = .ok (.isub, 1) := by decide +kernel
theorem dX12_waiting_45 : decode cX12_waiting 45 = .ok (.iload 4, 2) := by decide +kernel
theorem dX12_waiting_47 : decode cX12_waiting 47 = .ok (.iastore, 1) := by decide +kernel
theorem dX12_waiting_48 : decode cX12_waiting 48 = .ok (.aload_n 0, 1) := by decide +kernel
theorem dX12_waiting_49 : decode cX12_waiting 49 = .ok (.iload 5, 2) := by decide +kernel
theorem dX12_waiting_51 : decode cX12_waiting 51 = .ok (.putfield 166, 3) := by decide +kernel
theorem dX12_waiting_54 : decode cX12_waiting 54 = .ok (.iconst (-1), 1) := by decide +kernel
theorem dX12_waiting_55 : decode cX12_waiting 55 = .ok (.ireturn, 1) := by decide +kernel
theorem dX12_waiting_56 : decode cX12_waiting 56 = .ok (.iinc 5 (-1), 3) := by decide +kernel
theorem dX12_waiting_59 : decode cX12_waiting 59 = .ok (.aload_n 0, 1) := by decide +kernel
theorem dX12_waiting_60 : decode cX12_waiting 60 = .ok (.getfield 40, 3) := by decide +kernel
theorem dX12_waiting_63 : decode cX12_waiting 63 = .ok (.iload 5, 2) := by decide +kernel
theorem dX12_waiting_65 : decode cX12_waiting 65 = .ok (.iaload, 1) := by decide +kernel
theorem dX12_waiting_66 : decode cX12_waiting 66 = .ok (.bipush 6, 2) := by decide +kernel
theorem dX12_waiting_68 : decode cX12_waiting 68 = .ok (.if_icmp .ne 22, 3) := by decide +kernel
theorem dX12_waiting_71 : decode cX12_waiting 71 = .ok (.aload_n 0, 1) := by decide +kernel
theorem dX12_waiting_72 : decode cX12_waiting 72 = .ok (.bipush 6, 2) := by decide +kernel
theorem dX12_waiting_74 : decode cX12_waiting 74 = .ok (.aload_n 0, 1) := by decide +kernel
theorem dX12_waiting_75 : decode cX12_waiting 75 = .ok (.getfield 43, 3) := by decide +kernel
theorem dX12_waiting_78 : decode cX12_waiting 78 = .ok (.iload 5, 2) := by decide +kernel
theorem dX12_waiting_80 : decode cX12_waiting 80 = .ok (.iaload, 1) := by decide +kernel
theorem dX12_waiting_81 : decode cX12_waiting 81 = .ok (.iload 4, 2) := by decide +kernel
theorem dX12_waiting_83 : decode cX12_waiting 83 = .ok (.iload_n 3, 1) := by decide +kernel
theorem dX12_waiting_84 : decode cX12_waiting 84 = .ok (.invokevirtual 119, 3) := by decide +kernel
theorem dX12_waiting_87 : decode cX12_waiting 87 = .ok (.goto 18, 3) := by decide +kernel
theorem dX12_waiting_90 : decode cX12_waiting 90 = .ok (.aload_n 0, 1) := by decide +kernel
theorem dX12_waiting_91 : decode cX12_waiting 91 = .ok (.aload_n 0, 1) := by decide +kernel
theorem dX12_waiting_92 : decode cX12_waiting 92 = .ok (.getfield 40, 3) := by decide +kernel
theorem dX12_waiting_95 : decode cX12_waiting 95 = .ok (.iload 5, 2) := by decide +kernel
theorem dX12_waiting_97 : decode cX12_waiting 97 = .ok (.iaload, 1) := by decide +kernel
theorem dX12_waiting_98 : decode cX12_waiting 98 = .ok (.iload 4, 2) := by decide +kernel
theorem dX12_waiting_100 : decode cX12_waiting 100 = .ok (.iconst (-1), 1) := by decide +kernel
theorem dX12_waiting_101 : decode cX12_waiting 101 = .ok (.iload_n 3, 1) := by decide +kernel
theorem dX12_waiting_102 : decode cX12_waiting 102 = .ok (.invokevirtual 119, 3) := by decide +kernel
theorem dX12_waiting_105 : decode cX12_waiting 105 = .ok (.istore 4, 2) := by decide +kernel
theorem dX12_waiting_107 : decode cX12_waiting 107 = .ok (.aload_n 0, 1) := by decide +kernel
theorem dX12_waiting_108 : decode cX12_waiting 108 = .ok (.iload 4, 2) := by decide +kernel
theorem dX12_waiting_110 : decode cX12_waiting 110 = .ok (.invokevirtual 169, 3) := by decide +kernel
theorem dX12_waiting_113 : decode cX12_waiting 113 = .ok (.goto (-107), 3) := by decide +kernel
theorem dX12_waiting_116 : decode cX12_waiting 116 = .ok (.aload_n 0, 1) := by decide +kernel
theorem dX12_waiting_117 : decode cX12_waiting 117 = .ok (.iconst 0, 1) := by decide +kernel
theorem dX12_waiting_118 : decode cX12_waiting 118 = .ok (.putfield 166, 3) := by decide +kernel
theorem dX12_waiting_121 : decode cX12_waiting 121 = .ok (.iload 4, 2) := by decide +kernel
theorem dX12_waiting_123 : decode cX12_waiting 123 = .ok (.ireturn, 1) := by decide +kernel
theorem dX12_made_0 : decode cX12_made 0 = .ok (.aload_n 0, 1) := by decide +kernel
theorem dX12_made_1 : decode cX12_made 1 = .ok (.getfield 7, 3) := by decide +kernel
theorem dX12_made_4 : decode cX12_made 4 = .ok (.sipush 152, 3) := by decide +kernel
theorem dX12_made_7 : decode cX12_made 7 = .ok (.iload_n 1, 1) := by decide +kernel
theorem dX12_made_8 : decode cX12_made 8 = .ok (.iadd, 1) := by decide +kernel
theorem dX12_made_9 : decode cX12_made 9 = .ok (.aload_n 0, 1) := by decide +kernel
theorem dX12_made_10 : decode cX12_made 10 = .ok (.getfield 172, 3) := by decide +kernel
theorem dX12_made_13 : decode cX12_made 13 = .ok (.ifCond .eq 7, 3) := by decide +kernel
theorem dX12_made_16 : decode cX12_made 16 = .ok (.iconst 0, 1) := by decide +kernel
theorem dX12_made_17 : decode cX12_made 17 = .ok (.goto 13, 3) := by decide +kernel
theorem dX12_made_20 : decode cX12_made 20 = .ok (.aload_n 0, 1) := by decide +kernel
theorem dX12_made_21 : decode cX12_made 21 = .ok (.getfield 7, 3) := by decide +kernel
theorem dX12_made_24 : decode cX12_made 24 = .ok (.sipush 152, 3) := by decide +kernel
theorem dX12_made_27 : decode cX12_made 27 = .ok (.iload_n 1, 1) := by decide +kernel
theorem dX12_made_28 : decode cX12_made 28 = .ok (.iadd, 1) := by decide +kernel
theorem dX12_made_29 : decode cX12_made 29 = .ok (.iaload, 1) := by decide +kernel
theorem dX12_made_30 : decode cX12_made 30 = .ok (.iastore, 1) := by decide +kernel
theorem dX12_made_31 : decode cX12_made 31 = .ok (.return_, 1) := by decide +kernel
theorem dX12_builds_0 : decode cX12_builds 0 = .ok (.iconst 0, 1) := by decide +kernel
theorem dX12_builds_1 : decode cX12_builds 1 = .ok (.istore 5, 2) := by decide +kernel
theorem dX12_builds_3 : decode cX12_builds 3 = .ok (.iconst (-1), 1) := by decide +kernel
theorem dX12_builds_4 : decode cX12_builds 4 = .ok (.istore 6, 2) := by decide +kernel
theorem dX12_builds_6 : decode cX12_builds 6 = .ok (.iload_n 2, 1) := by decide +kernel
theorem dX12_builds_7 : decode cX12_builds 7 = .ok (.istore 7, 2) := by decide +kernel
theorem dX12_builds_9 : decode cX12_builds 9 = .ok (.iload 7, 2) := by decide +kernel
theorem dX12_builds_11 : decode cX12_builds 11 = .ok (.iload_n 2, 1) := by decide +kernel
theorem dX12_builds_12 : decode cX12_builds 12 = .ok (.iload_n 3, 1) := by decide +kernel
theorem dX12_builds_13 : decode cX12_builds 13 = .ok (.iadd, 1) := by decide +kernel
theorem dX12_builds_14 : decode cX12_builds 14 = .ok (.if_icmp .ge 102, 3) := by decide +kernel
theorem dX12_builds_17 : decode cX12_builds 17 = .ok (.aload_n 1, 1) := by decide +kernel
theorem dX12_builds_18 : decode cX12_builds 18 = .ok (.iload 7, 2) := by decide +kernel
theorem dX12_builds_20 : decode cX12_builds 20 = .ok (.iaload, 1) := by decide +kernel
theorem dX12_builds_21 : decode cX12_builds 21 = .ok (.istore 8, 2) := by decide +kernel
theorem dX12_builds_23 : decode cX12_builds 23 = .ok (.iload 8, 2) := by decide +kernel
theorem dX12_builds_25 : decode cX12_builds 25 = .ok (.invokestatic 106, 3) := by decide +kernel
theorem dX12_builds_28 : decode cX12_builds 28 = .ok (.ifCond .le 26, 3) := by decide +kernel
theorem dX12_builds_31 : decode cX12_builds 31 = .ok (.aload_n 0, 1) := by decide +kernel
theorem dX12_builds_32 : decode cX12_builds 32 = .ok (.getfield 40, 3) := by decide +kernel
theorem dX12_builds_35 : decode cX12_builds 35 = .ok (.iload 5, 2) := by decide +kernel
theorem dX12_builds_37 : decode cX12_builds 37 = .ok (.iload 8, 2) := by decide +kernel
theorem dX12_builds_39 : decode cX12_builds 39 = .ok (.iastore, 1) := by decide +kernel
theorem dX12_builds_40 : decode cX12_builds 40 = .ok (.aload_n 0, 1) := by decide +kernel
theorem dX12_builds_41 : decode cX12_builds 41 = .ok (.getfield 43, 3) := by decide +kernel
theorem dX12_builds_44 : decode cX12_builds 44 = .ok (.iload 5, 2) := by decide +kernel
theorem dX12_builds_46 : decode cX12_builds 46 = .ok (.iconst (-1), 1) := by decide +kernel
theorem dX12_builds_47 : decode cX12_builds 47 = .ok (.iastore, 1) := by decide +kernel
theorem dX12_builds_48 : decode cX12_builds 48 = .ok (.iinc 5 1, 3) := by decide +kernel
theorem dX12_builds_51 : decode cX12_builds 51 = .ok (.goto 59, 3) := by decide +kernel
theorem dX12_builds_54 : decode cX12_builds 54 = .ok (.iload 8, 2) := by decide +kernel
theorem dX12_builds_56 : decode cX12_builds 56 = .ok (.bipush 7, 2) := by decide +kernel
theorem dX12_builds_58 : decode cX12_builds 58 = .ok (.if_icmp .lt 16, 3) := by decide +kernel
theorem dX12_builds_61 : decode cX12_builds 61 = .ok (.aload_n 0, 1) := by decide +kernel
theorem dX12_builds_62 : decode cX12_builds 62 = .ok (.getfield 70, 3) := by decide +kernel
theorem dX12_builds_65 : decode cX12_builds 65 = .ok (.iload 8, 2) := by decide +kernel
theorem dX12_builds_67 : decode cX12_builds 67 = .ok (.bipush 7, 2) := by decide +kernel
theorem dX12_builds_69 : decode cX12_builds 69 = .ok (.isub, 1) := by decide +kernel
theorem dX12_builds_70 : decode cX12_builds 70 = .ok (.iaload, 1) := by decide +kernel
theorem dX12_builds_71 : decode cX12_builds 71 = .ok (.goto 13, 3) := by decide +kernel
theorem dX12_builds_74 : decode cX12_builds 74 = .ok (.aload_n 0, 1) := by decide +kernel
theorem dX12_builds_75 : decode cX12_builds 75 = .ok (.iload 8, 2) := by decide +kernel
theorem dX12_builds_77 : decode cX12_builds 77 = .ok (.iconst (-1), 1) := by decide +kernel
theorem dX12_builds_78 : decode cX12_builds 78 = .ok (.iconst (-1), 1) := by decide +kernel
theorem dX12_builds_79 : decode cX12_builds 79 = .ok (.iload 4, 2) := by decide +kernel
theorem dX12_builds_81 : decode cX12_builds 81 = .ok (.invokevirtual 119, 3) := by decide +kernel
theorem dX12_builds_84 : decode cX12_builds 84 = .ok (.istore 9, 2) := by decide +kernel
theorem dX12_builds_86 : decode cX12_builds 86 = .ok (.aload_n 0, 1) := by decide +kernel
theorem dX12_builds_87 : decode cX12_builds 87 = .ok (.iload 9, 2) := by decide +kernel
theorem dX12_builds_89 : decode cX12_builds 89 = .ok (.invokevirtual 169, 3) := by decide +kernel
theorem dX12_builds_92 : decode cX12_builds 92 = .ok (.aload_n 0, 1) := by decide +kernel
theorem dX12_builds_93 : decode cX12_builds 93 = .ok (.iload 5, 2) := by decide +kernel
theorem dX12_builds_95 : decode cX12_builds 95 = .ok (.iload 9, 2) := by decide +kernel
theorem dX12_builds_97 : decode cX12_builds 97 = .ok (.iload 4, 2) := by decide +kernel
theorem dX12_builds_99 : decode cX12_builds 99 = .ok (.invokevirtual 175, 3) := by decide +kernel
theorem dX12_builds_102 : decode cX12_builds 102 = .ok (.istore 6, 2) := by decide +kernel
theorem dX12_builds_104 : decode cX12_builds 104 = .ok (.aload_n 0, 1) := by decide +kernel
theorem dX12_builds_105 : decode cX12_builds 105 = .ok (.getfield 166, 3) := by decide +kernel
theorem dX12_builds_108 : decode cX12_builds 108 = .ok (.istore 5, 2) := by decide +kernel
theorem dX12_builds_110 : decode cX12_builds 110 = .ok (.iinc 7 1, 3) := by decide +kernel
theorem dX12_builds_113 : decode cX12_builds 113 = .ok (.goto (-104), 3) := by decide +kernel
theorem dX12_builds_116 : decode cX12_builds 116 = .ok (.iload 6, 2) := by decide +kernel
theorem dX12_builds_118 : decode cX12_builds 118 = .ok (.ireturn, 1) := by decide +kernel
theorem dX12_does_0 : decode cX12_does 0 = .ok (.sipush 1000, 3) := by decide +kernel
theorem dX12_does_3 : decode cX12_does 3 = .ok (.iload_n 1, 1) := by decide +kernel
theorem dX12_does_4 : decode cX12_does 4 = .ok (.imul, 1) := by decide +kernel
theorem dX12_does_5 : decode cX12_does 5 = .ok (.iconst 5, 1) := by decide +kernel
theorem dX12_does_6 : decode cX12_does 6 = .ok (.iload_n 2, 1) := by decide +kernel
theorem dX12_does_7 : decode cX12_does 7 = .ok (.imul, 1) := by decide +kernel
theorem dX12_does_8 : decode cX12_does 8 = .ok (.iadd, 1) := by decide +kernel
theorem dX12_does_9 : decode cX12_does 9 = .ok (.istore_n 3, 1) := by decide +kernel
theorem dX12_does_10 : decode cX12_does 10 = .ok (.aload_n 0, 1) := by decide +kernel
theorem dX12_does_11 : decode cX12_does 11 = .ok (.getfield 7, 3) := by decide +kernel
theorem dX12_does_14 : decode cX12_does 14 = .ok (.iconst 0, 1) := by decide +kernel
theorem dX12_does_15 : decode cX12_does 15 = .ok (.iaload, 1) := by decide +kernel
theorem dX12_does_16 : decode cX12_does 16 = .ok (.istore 4, 2) := by decide +kernel
theorem dX12_does_18 : decode cX12_does 18 = .ok (.aload_n 0, 1) := by decide +kernel
theorem dX12_does_19 : decode cX12_does 19 = .ok (.iload 4, 2) := by decide +kernel
theorem dX12_does_21 : decode cX12_does 21 = .ok (.invokevirtual 126, 3) := by decide +kernel
theorem dX12_does_24 : decode cX12_does 24 = .ok (.istore 5, 2) := by decide +kernel
theorem dX12_does_26 : decode cX12_does 26 = .ok (.iconst 0, 1) := by decide +kernel
theorem dX12_does_27 : decode cX12_does 27 = .ok (.istore 6, 2) := by decide +kernel
theorem dX12_does_29 : decode cX12_does 29 = .ok (.iload 6, 2) := by decide +kernel
theorem dX12_does_31 : decode cX12_does 31 = .ok (.iconst 3, 1) := by decide +kernel
theorem dX12_does_32 : decode cX12_does 32 = .ok (.if_icmp .ge 45, 3) := by decide +kernel
theorem dX12_does_35 : decode cX12_does 35 = .ok (.aload_n 0, 1) := by decide +kernel
theorem dX12_does_36 : decode cX12_does 36 = .ok (.getfield 70, 3) := by decide +kernel
theorem dX12_does_39 : decode cX12_does 39 = .ok (.iload 6, 2) := by decide +kernel
theorem dX12_does_41 : decode cX12_does 41 = .ok (.aload_n 0, 1) := by decide +kernel
theorem dX12_does_42 : decode cX12_does 42 = .ok (.getfield 61, 3) := by decide +kernel
theorem dX12_does_45 : decode cX12_does 45 = .ok (.iload_n 3, 1) := by decide +kernel
theorem dX12_does_46 : decode cX12_does 46 = .ok (.iload 6, 2) := by decide +kernel
theorem dX12_does_48 : decode cX12_does 48 = .ok (.iadd, 1) := by decide +kernel
theorem dX12_does_49 : decode cX12_does 49 = .ok (.iaload, 1) := by decide +kernel
theorem dX12_does_50 : decode cX12_does 50 = .ok (.ifCond .ge 7, 3) := by decide +kernel
theorem dX12_does_53 : decode cX12_does 53 = .ok (.iconst (-1), 1) := by decide +kernel
theorem dX12_does_54 : decode cX12_does 54 = .ok (.goto 16, 3) := by decide +kernel
theorem dX12_does_57 : decode cX12_does 57 = .ok (.aload_n 0, 1) := by decide +kernel
theorem dX12_does_58 : decode cX12_does 58 = .ok (.aload_n 0, 1) := by decide +kernel
theorem dX12_does_59 : decode cX12_does 59 = .ok (.getfield 61, 3) := by decide +kernel
theorem dX12_does_62 : decode cX12_does 62 = .ok (.iload_n 3, 1) := by decide +kernel
theorem dX12_does_63 : decode cX12_does 63 = .ok (.iload 6, 2) := by decide +kernel
theorem dX12_does_65 : decode cX12_does 65 = .ok (.iadd, 1) := by decide +kernel
theorem dX12_does_66 : decode cX12_does 66 = .ok (.iaload, 1) := by decide +kernel
theorem dX12_does_67 : decode cX12_does 67 = .ok (.invokevirtual 95, 3) := by decide +kernel
theorem dX12_does_70 : decode cX12_does 70 = .ok (.iastore, 1) := by decide +kernel
theorem dX12_does_71 : decode cX12_does 71 = .ok (.iinc 6 1, 3) := by decide +kernel
theorem dX12_does_74 : decode cX12_does 74 = .ok (.goto (-45), 3) := by decide +kernel
theorem dX12_does_77 : decode cX12_does 77 = .ok (.aload_n 0, 1) := by decide +kernel
theorem dX12_does_78 : decode cX12_does 78 = .ok (.iconst 0, 1) := by decide +kernel
theorem dX12_does_79 : decode cX12_does 79 = .ok (.putfield 91, 3) := by decide +kernel
theorem dX12_does_82 : decode cX12_does 82 = .ok (.aload_n 0, 1) := by decide +kernel
theorem dX12_does_83 : decode cX12_does 83 = .ok (.iconst 0, 1) := by decide +kernel
theorem dX12_does_84 : decode cX12_does 84 = .ok (.putfield 172, 3) := by decide +kernel
theorem dX12_does_87 : decode cX12_does 87 = .ok (.aload_n 0, 1) := by decide +kernel
theorem dX12_does_88 : decode cX12_does 88 = .ok (.aload_n 0, 1) := by decide +kernel
theorem dX12_does_89 : decode cX12_does 89 = .ok (.getfield 7, 3) := by decide +kernel
theorem dX12_does_92 : decode cX12_does 92 = .ok (.sipush 264, 3) := by decide +kernel
theorem dX12_does_95 : decode cX12_does 95 = .ok (.bipush 120, 2) := by decide +kernel
theorem dX12_does_97 : decode cX12_does 97 = .ok (.iload_n 1, 1) := by decide +kernel
theorem dX12_does_98 : decode cX12_does 98 = .ok (.imul, 1) := by decide +kernel
theorem dX12_does_99 : decode cX12_does 99 = .ok (.iadd, 1) := by decide +kernel
theorem dX12_does_100 : decode cX12_does 100 = .ok (.aload_n 0, 1) := by decide +kernel
theorem dX12_does_101 : decode cX12_does 101 = .ok (.getfield 7, 3) := by decide +kernel
theorem dX12_does_104 : decode cX12_does 104 = .ok (.sipush 252, 3) := by decide +kernel
theorem dX12_does_107 : decode cX12_does 107 = .ok (.iload_n 1, 1) := by decide +kernel
theorem dX12_does_108 : decode cX12_does 108 = .ok (.iadd, 1) := by decide +kernel
theorem dX12_does_109 : decode cX12_does 109 = .ok (.iaload, 1) := by decide +kernel
theorem dX12_does_110 : decode cX12_does 110 = .ok (.iadd, 1) := by decide +kernel
theorem dX12_does_111 : decode cX12_does 111 = .ok (.aload_n 0, 1) := by decide +kernel
theorem dX12_does_112 : decode cX12_does 112 = .ok (.getfield 7, 3) := by decide +kernel
theorem dX12_does_115 : decode cX12_does 115 = .ok (.sipush 258, 3) := by decide +kernel
theorem dX12_does_118 : decode cX12_does 118 = .ok (.iload_n 1, 1) := by decide +kernel
theorem dX12_does_119 : decode cX12_does 119 = .ok (.iadd, 1) := by decide +kernel
theorem dX12_does_120 : decode cX12_does 120 = .ok (.iaload, 1) := by decide +kernel
theorem dX12_does_121 : decode cX12_does 121 = .ok (.aload_n 0, 1) := by decide +kernel
theorem dX12_does_122 : decode cX12_does 122 = .ok (.getfield 61, 3) := by decide +kernel
theorem dX12_does_125 : decode cX12_does 125 = .ok (.iload_n 3, 1) := by decide +kernel
theorem dX12_does_126 : decode cX12_does 126 = .ok (.iconst 4, 1) := by decide +kernel
theorem dX12_does_127 : decode cX12_does 127 = .ok (.iadd, 1) := by decide +kernel
theorem dX12_does_128 : decode cX12_does 128 = .ok (.iaload, 1) := by decide +kernel
theorem dX12_does_129 : decode cX12_does 129 = .ok (.invokevirtual 178, 3) := by decide +kernel
theorem dX12_does_132 : decode cX12_does 132 = .ok (.istore 6, 2) := by decide +kernel
theorem dX12_does_134 : decode cX12_does 134 = .ok (.aload_n 0, 1) := by decide +kernel
theorem dX12_does_135 : decode cX12_does 135 = .ok (.getfield 91, 3) := by decide +kernel
theorem dX12_does_138 : decode cX12_does 138 = .ok (.ifCond .eq 23, 3) := by decide +kernel
theorem dX12_does_141 : decode cX12_does 141 = .ok (.aload_n 0, 1) := by decide +kernel
theorem dX12_does_142 : decode cX12_does 142 = .ok (.getfield 7, 3) := by decide +kernel
theorem dX12_does_145 : decode cX12_does 145 = .ok (.iconst 0, 1) := by decide +kernel
theorem dX12_does_146 : decode cX12_does 146 = .ok (.iload 4, 2) := by decide +kernel
theorem dX12_does_148 : decode cX12_does 148 = .ok (.iastore, 1) := by decide +kernel
theorem dX12_does_149 : decode cX12_does 149 = .ok (.aload_n 0, 1) := by decide +kernel
theorem dX12_does_150 : decode cX12_does 150 = .ok (.getfield 22, 3) := by decide +kernel
theorem dX12_does_153 : decode cX12_does 153 = .ok (.iconst 2, 1) := by decide +kernel
theorem dX12_does_154 : decode cX12_does 154 = .ok (.dup2, 1) := by decide +kernel
theorem dX12_does_155 : decode cX12_does 155 = .ok (.iaload, 1) := by decide +kernel
theorem dX12_does_156 : decode cX12_does 156 = .ok (.iconst 1, 1) := by decide +kernel
theorem dX12_does_157 : decode cX12_does 157 = .ok (.iadd, 1) := by decide +kernel
theorem dX12_does_158 : decode cX12_does 158 = .ok (.iastore, 1) := by decide +kernel
theorem dX12_does_159 : decode cX12_does 159 = .ok (.iconst 0, 1) := by decide +kernel
theorem dX12_does_160 : decode cX12_does 160 = .ok (.ireturn, 1) := by decide +kernel
theorem dX12_does_161 : decode cX12_does 161 = .ok (.aload_n 0, 1) := by decide +kernel
theorem dX12_does_162 : decode cX12_does 162 = .ok (.getfield 22, 3) := by decide +kernel
theorem dX12_does_165 : decode cX12_does 165 = .ok (.iconst 0, 1) := by decide +kernel
theorem dX12_does_166 : decode cX12_does 166 = .ok (.dup2, 1) := by decide +kernel
theorem dX12_does_167 : decode cX12_does 167 = .ok (.iaload, 1) := by decide +kernel
theorem dX12_does_168 : decode cX12_does 168 = .ok (.iconst 1, 1) := by decide +kernel
theorem dX12_does_169 : decode cX12_does 169 = .ok (.iadd, 1) := by decide +kernel
theorem dX12_does_170 : decode cX12_does 170 = .ok (.iastore, 1) := by decide +kernel
theorem dX12_does_171 : decode cX12_does 171 = .ok (.aload_n 0, 1) := by decide +kernel
theorem dX12_does_172 : decode cX12_does 172 = .ok (.getfield 22, 3) := by decide +kernel
theorem dX12_does_175 : decode cX12_does 175 = .ok (.iconst 3, 1) := by decide +kernel
theorem dX12_does_176 : decode cX12_does 176 = .ok (.dup2, 1) := by decide +kernel
theorem dX12_does_177 : decode cX12_does 177 = .ok (.iaload, 1) := by decide +kernel
theorem dX12_does_178 : decode cX12_does 178 = .ok (.aload_n 0, 1) := by decide +kernel
theorem dX12_does_179 : decode cX12_does 179 = .ok (.getfield 7, 3) := by decide +kernel
theorem dX12_does_182 : decode cX12_does 182 = .ok (.iconst 0, 1) := by decide +kernel
theorem dX12_does_183 : decode cX12_does 183 = .ok (.iaload, 1) := by decide +kernel
theorem dX12_does_184 : decode cX12_does 184 = .ok (.iload 4, 2) := by decide +kernel
theorem dX12_does_186 : decode cX12_does 186 = .ok (.isub, 1) := by decide +kernel
theorem dX12_does_187 : decode cX12_does 187 = .ok (.iadd, 1) := by decide +kernel
theorem dX12_does_188 : decode cX12_does 188 = .ok (.iastore, 1) := by decide +kernel
theorem dX12_does_189 : decode cX12_does 189 = .ok (.aload_n 0, 1) := by decide +kernel
theorem dX12_does_190 : decode cX12_does 190 = .ok (.invokevirtual 123, 3) := by decide +kernel
theorem dX12_does_193 : decode cX12_does 193 = .ok (.aload_n 0, 1) := by decide +kernel
theorem dX12_does_194 : decode cX12_does 194 = .ok (.iload 6, 2) := by decide +kernel
theorem dX12_does_196 : decode cX12_does 196 = .ok (.aload_n 0, 1) := by decide +kernel
theorem dX12_does_197 : decode cX12_does 197 = .ok (.getfield 61, 3) := by decide +kernel
theorem dX12_does_200 : decode cX12_does 200 = .ok (.iload_n 3, 1) := by decide +kernel
theorem dX12_does_201 : decode cX12_does 201 = .ok (.iconst 3, 1) := by decide +kernel
theorem dX12_does_202 : decode cX12_does 202 = .ok (.iadd, 1) := by decide +kernel
theorem dX12_does_203 : decode cX12_does 203 = .ok (.iaload, 1) := by decide +kernel
theorem dX12_does_204 : decode cX12_does 204 = .ok (.invokevirtual 103, 3) := by decide +kernel
theorem dX12_does_207 : decode cX12_does 207 = .ok (.pop, 1) := by decide +kernel
theorem dX12_does_208 : decode cX12_does 208 = .ok (.aload_n 0, 1) := by decide +kernel
theorem dX12_does_209 : decode cX12_does 209 = .ok (.invokevirtual 123, 3) := by decide +kernel
theorem dX12_does_212 : decode cX12_does 212 = .ok (.aload_n 0, 1) := by decide +kernel
theorem dX12_does_213 : decode cX12_does 213 = .ok (.iload 4, 2) := by decide +kernel
theorem dX12_does_215 : decode cX12_does 215 = .ok (.invokevirtual 126, 3) := by decide +kernel
theorem dX12_does_218 : decode cX12_does 218 = .ok (.iload 5, 2) := by decide +kernel
theorem dX12_does_220 : decode cX12_does 220 = .ok (.if_icmp .ge 7, 3) := by decide +kernel
theorem dX12_does_223 : decode cX12_does 223 = .ok (.iconst 1, 1) := by decide +kernel
theorem dX12_does_224 : decode cX12_does 224 = .ok (.goto 4, 3) := by decide +kernel
theorem dX12_does_227 : decode cX12_does 227 = .ok (.iconst 0, 1) := by decide +kernel
theorem dX12_does_228 : decode cX12_does 228 = .ok (.istore 7, 2) := by decide +kernel
theorem dX12_does_230 : decode cX12_does 230 = .ok (.aload_n 0, 1) := by decide +kernel
theorem dX12_does_231 : decode cX12_does 231 = .ok (.getfield 22, 3) := by decide +kernel
theorem dX12_does_234 : decode cX12_does 234 = .ok (.iconst 4, 1) := by decide +kernel
theorem dX12_does_235 : decode cX12_does 235 = .ok (.dup2, 1) := by decide +kernel
theorem dX12_does_236 : decode cX12_does 236 = .ok (.iaload, 1) := by decide +kernel
theorem dX12_does_237 : decode cX12_does 237 = .ok (.iload 7, 2) := by decide +kernel
theorem dX12_does_239 : decode cX12_does 239 = .ok (.ifCond .eq 7, 3) := by decide +kernel
theorem dX12_does_242 : decode cX12_does 242 = .ok (.iconst 1, 1) := by decide +kernel
theorem dX12_does_243 : decode cX12_does 243 = .ok (.goto 4, 3) := by decide +kernel
theorem dX12_does_246 : decode cX12_does 246 = .ok (.iconst 0, 1) := by decide +kernel
theorem dX12_does_247 : decode cX12_does 247 = .ok (.iadd, 1) := by decide +kernel
theorem dX12_does_248 : decode cX12_does 248 = .ok (.iastore, 1) := by decide +kernel
theorem dX12_does_249 : decode cX12_does 249 = .ok (.iload 7, 2) := by decide +kernel
theorem dX12_does_251 : decode cX12_does 251 = .ok (.ifCond .ne 14, 3) := by decide +kernel
theorem dX12_does_254 : decode cX12_does 254 = .ok (.aload_n 0, 1) := by decide +kernel
theorem dX12_does_255 : decode cX12_does 255 = .ok (.getfield 7, 3) := by decide +kernel
theorem dX12_does_258 : decode cX12_does 258 = .ok (.iconst 0, 1) := by decide +kernel
theorem dX12_does_259 : decode cX12_does 259 = .ok (.iaload, 1) := by decide +kernel
theorem dX12_does_260 : decode cX12_does 260 = .ok (.iload 4, 2) := by decide +kernel
theorem dX12_does_262 : decode cX12_does 262 = .ok (.if_icmp .le 7, 3) := by decide +kernel
theorem dX12_does_265 : decode cX12_does 265 = .ok (.iconst 1, 1) := by decide +kernel
theorem dX12_does_266 : decode cX12_does 266 = .ok (.goto 4, 3) := by decide +kernel
theorem dX12_does_269 : decode cX12_does 269 = .ok (.iconst 0, 1) := by decide +kernel
theorem dX12_does_270 : decode cX12_does 270 = .ok (.ireturn, 1) := by decide +kernel
theorem dX12_doesAll_0 : decode cX12_doesAll 0 = .ok (.iconst 0, 1) := by decide +kernel
theorem dX12_doesAll_1 : decode cX12_doesAll 1 = .ok (.istore 4, 2) := by decide +kernel
theorem dX12_doesAll_3 : decode cX12_doesAll 3 = .ok (.iconst 0, 1) := by decide +kernel
theorem dX12_doesAll_4 : decode cX12_doesAll 4 = .ok (.istore 5, 2) := by decide +kernel
theorem dX12_doesAll_6 : decode cX12_doesAll 6 = .ok (.iload 5, 2) := by decide +kernel
theorem dX12_doesAll_8 : decode cX12_doesAll 8 = .ok (.aload_n 0, 1) := by decide +kernel
theorem dX12_doesAll_9 : decode cX12_doesAll 9 = .ok (.getfield 64, 3) := by decide +kernel
theorem dX12_doesAll_12 : decode cX12_doesAll 12 = .ok (.iload_n 1, 1) := by decide +kernel
theorem dX12_doesAll_13 : decode cX12_doesAll 13 = .ok (.iaload, 1) := by decide +kernel
theorem dX12_doesAll_14 : decode cX12_doesAll 14 = .ok (.if_icmp .ge 105, 3) := by decide +kernel
theorem dX12_doesAll_17 : decode cX12_doesAll 17 = .ok (.sipush 1000, 3) := by decide +kernel
theorem dX12_doesAll_20 : decode cX12_doesAll 20 = .ok (.iload_n 1, 1) := by decide +kernel
theorem dX12_doesAll_21 : decode cX12_doesAll 21 = .ok (.imul, 1) := by decide +kernel
theorem dX12_doesAll_22 : decode cX12_doesAll 22 = .ok (.iconst 5, 1) := by decide +kernel
theorem dX12_doesAll_23 : decode cX12_doesAll 23 = .ok (.iload 5, 2) := by decide +kernel
theorem dX12_doesAll_25 : decode cX12_doesAll 25 = .ok (.imul, 1) := by decide +kernel
theorem dX12_doesAll_26 : decode cX12_doesAll 26 = .ok (.iadd, 1) := by decide +kernel
theorem dX12_doesAll_27 : decode cX12_doesAll 27 = .ok (.istore 6, 2) := by decide +kernel
theorem dX12_doesAll_29 : decode cX12_doesAll 29 = .ok (.aload_n 0, 1) := by decide +kernel
theorem dX12_doesAll_30 : decode cX12_doesAll 30 = .ok (.getfield 61, 3) := by decide +kernel
theorem dX12_doesAll_33 : decode cX12_doesAll 33 = .ok (.iload 6, 2) := by decide +kernel
theorem dX12_doesAll_35 : decode cX12_doesAll 35 = .ok (.iconst 4, 1) := by decide +kernel
theorem dX12_doesAll_36 : decode cX12_doesAll 36 = .ok (.iadd, 1) := by decide +kernel
theorem dX12_doesAll_37 : decode cX12_doesAll 37 = .ok (.iaload, 1) := by decide +kernel
theorem dX12_doesAll_38 : decode cX12_doesAll 38 = .ok (.aload_n 0, 1) := by decide +kernel
theorem dX12_doesAll_39 : decode cX12_doesAll 39 = .ok (.getfield 19, 3) := by decide +kernel
theorem dX12_doesAll_42 : decode cX12_doesAll 42 = .ok (.iconst 1, 1) := by decide +kernel
theorem dX12_doesAll_43 : decode cX12_doesAll 43 = .ok (.iaload, 1) := by decide +kernel
theorem dX12_doesAll_44 : decode cX12_doesAll 44 = .ok (.if_icmp .gt 41, 3) := by decide +kernel
theorem dX12_doesAll_47 : decode cX12_doesAll 47 = .ok (.iload_n 2, 1) := by decide +kernel
theorem dX12_doesAll_48 : decode cX12_doesAll 48 = .ok (.ifCond .lt 16, 3) := by decide +kernel
theorem dX12_doesAll_51 : decode cX12_doesAll 51 = .ok (.aload_n 0, 1) := by decide +kernel
theorem dX12_doesAll_52 : decode cX12_doesAll 52 = .ok (.getfield 61, 3) := by decide +kernel
theorem dX12_doesAll_55 : decode cX12_doesAll 55 = .ok (.iload 6, 2) := by decide +kernel
theorem dX12_doesAll_57 : decode cX12_doesAll 57 = .ok (.iconst 4, 1) := by decide +kernel
theorem dX12_doesAll_58 : decode cX12_doesAll 58 = .ok (.iadd, 1) := by decide +kernel
theorem dX12_doesAll_59 : decode cX12_doesAll 59 = .ok (.iaload, 1) := by decide +kernel
theorem dX12_doesAll_60 : decode cX12_doesAll 60 = .ok (.iload_n 2, 1) := by decide +kernel
theorem dX12_doesAll_61 : decode cX12_doesAll 61 = .ok (.if_icmp .ne 24, 3) := by decide +kernel
theorem dX12_doesAll_64 : decode cX12_doesAll 64 = .ok (.iload_n 3, 1) := by decide +kernel
theorem dX12_doesAll_65 : decode cX12_doesAll 65 = .ok (.ifCond .lt 16, 3) := by decide +kernel
theorem dX12_doesAll_68 : decode cX12_doesAll 68 = .ok (.aload_n 0, 1) := by decide +kernel
theorem dX12_doesAll_69 : decode cX12_doesAll 69 = .ok (.getfield 61, 3) := by decide +kernel
theorem dX12_doesAll_72 : decode cX12_doesAll 72 = .ok (.iload 6, 2) := by decide +kernel
theorem dX12_doesAll_74 : decode cX12_doesAll 74 = .ok (.iconst 3, 1) := by decide +kernel
theorem dX12_doesAll_75 : decode cX12_doesAll 75 = .ok (.iadd, 1) := by decide +kernel
theorem dX12_doesAll_76 : decode cX12_doesAll 76 = .ok (.iaload, 1) := by decide +kernel
theorem dX12_doesAll_77 : decode cX12_doesAll 77 = .ok (.iload_n 3, 1) := by decide +kernel
theorem dX12_doesAll_78 : decode cX12_doesAll 78 = .ok (.if_icmp .ne 7, 3) := by decide +kernel
theorem dX12_doesAll_81 : decode cX12_doesAll 81 = .ok (.iconst 1, 1) := by decide +kernel
theorem dX12_doesAll_82 : decode cX12_doesAll 82 = .ok (.goto 4, 3) := by decide +kernel
theorem dX12_doesAll_85 : decode cX12_doesAll 85 = .ok (.iconst 0, 1) := by decide +kernel
theorem dX12_doesAll_86 : decode cX12_doesAll 86 = .ok (.istore 7, 2) := by decide +kernel
theorem dX12_doesAll_88 : decode cX12_doesAll 88 = .ok (.iload 4, 2) := by decide +kernel
theorem dX12_doesAll_90 : decode cX12_doesAll 90 = .ok (.iload 7, 2) := by decide +kernel
theorem dX12_doesAll_92 : decode cX12_doesAll 92 = .ok (.ifCond .eq 17, 3) := by decide +kernel
theorem dX12_doesAll_95 : decode cX12_doesAll 95 = .ok (.aload_n 0, 1) := by decide +kernel
theorem dX12_doesAll_96 : decode cX12_doesAll 96 = .ok (.iload_n 1, 1) := by decide +kernel
theorem dX12_doesAll_97 : decode cX12_doesAll 97 = .ok (.iload 5, 2) := by decide +kernel
theorem dX12_doesAll_99 : decode cX12_doesAll 99 = .ok (.invokevirtual 182, 3) := by decide +kernel
theorem dX12_doesAll_102 : decode cX12_doesAll 102 = .ok (.ifCond .eq 7, 3) := by decide +kernel
theorem dX12_doesAll_105 : decode cX12_doesAll 105 = .ok (.iconst 1, 1) := by decide +kernel
theorem dX12_doesAll_106 : decode cX12_doesAll 106 = .ok (.goto 4, 3) := by decide +kernel
theorem dX12_doesAll_109 : decode cX12_doesAll 109 = .ok (.iconst 0, 1) := by decide +kernel
theorem dX12_doesAll_110 : decode cX12_doesAll 110 = .ok (.iadd, 1) := by decide +kernel
theorem dX12_doesAll_111 : decode cX12_doesAll 111 = .ok (.istore 4, 2) := by decide +kernel
theorem dX12_doesAll_113 : decode cX12_doesAll 113 = .ok (.iinc 5 1, 3) := by decide +kernel
theorem dX12_doesAll_116 : decode cX12_doesAll 116 = .ok (.goto (-110), 3) := by decide +kernel
theorem dX12_doesAll_119 : decode cX12_doesAll 119 = .ok (.iload 4, 2) := by decide +kernel
theorem dX12_doesAll_121 : decode cX12_doesAll 121 = .ok (.ireturn, 1) := by decide +kernel
theorem dX12_goesRound_0 : decode cX12_goesRound 0 = .ok (.aload_n 0, 1) := by decide +kernel
theorem dX12_goesRound_1 : decode cX12_goesRound 1 = .ok (.invokevirtual 160, 3) := by decide +kernel
theorem dX12_goesRound_4 : decode cX12_goesRound 4 = .ok (.iconst 0, 1) := by decide +kernel
theorem dX12_goesRound_5 : decode cX12_goesRound 5 = .ok (.istore_n 1, 1) := by decide +kernel
theorem dX12_goesRound_6 : decode cX12_goesRound 6 = .ok (.iload_n 1, 1) := by decide +kernel
theorem dX12_goesRound_7 : decode cX12_goesRound 7 = .ok (.iconst 5, 1) := by decide +kernel
theorem dX12_goesRound_8 : decode cX12_goesRound 8 = .ok (.if_icmp .ge 16, 3) := by decide +kernel
theorem dX12_goesRound_11 : decode cX12_goesRound 11 = .ok (.aload_n 0, 1) := by decide +kernel
theorem dX12_goesRound_12 : decode cX12_goesRound 12 = .ok (.getfield 22, 3) := by decide +kernel
theorem dX12_goesRound_15 : decode cX12_goesRound 15 = .ok (.iload_n 1, 1) := by decide +kernel
theorem dX12_goesRound_16 : decode cX12_goesRound 16 = .ok (.iconst 0, 1) := by decide +kernel
theorem dX12_goesRound_17 : decode cX12_goesRound 17 = .ok (.iastore, 1) := by decide +kernel
theorem dX12_goesRound_18 : decode cX12_goesRound 18 = .ok (.iinc 1 1, 3) := by decide +kernel
theorem dX12_goesRound_21 : decode cX12_goesRound 21 = .ok (.goto (-15), 3) := by decide +kernel
theorem dX12_goesRound_24 : decode cX12_goesRound 24 = .ok (.aload_n 0, 1) := by decide +kernel
theorem dX12_goesRound_25 : decode cX12_goesRound 25 = .ok (.getfield 7, 3) := by decide +kernel
theorem dX12_goesRound_28 : decode cX12_goesRound 28 = .ok (.iconst 1, 1) := by decide +kernel
theorem dX12_goesRound_29 : decode cX12_goesRound 29 = .ok (.iaload, 1) := by decide +kernel
theorem dX12_goesRound_30 : decode cX12_goesRound 30 = .ok (.istore_n 1, 1) := by decide +kernel
theorem dX12_goesRound_31 : decode cX12_goesRound 31 = .ok (.iconst 0, 1) := by decide +kernel
theorem dX12_goesRound_32 : decode cX12_goesRound 32 = .ok (.istore_n 2, 1) := by decide +kernel
theorem dX12_goesRound_33 : decode cX12_goesRound 33 = .ok (.iload_n 2, 1) := by decide +kernel
theorem dX12_goesRound_34 : decode cX12_goesRound 34 = .ok (.iload_n 1, 1) := by decide +kernel
theorem dX12_goesRound_35 : decode cX12_goesRound 35 = .ok (.if_icmp .ge 71, 3) := by decide +kernel
theorem dX12_goesRound_38 : decode cX12_goesRound 38 = .ok (.aload_n 0, 1) := by decide +kernel
theorem dX12_goesRound_39 : decode cX12_goesRound 39 = .ok (.iload_n 2, 1) := by decide +kernel
theorem dX12_goesRound_40 : decode cX12_goesRound 40 = .ok (.invokevirtual 163, 3) := by decide +kernel
theorem dX12_goesRound_43 : decode cX12_goesRound 43 = .ok (.iconst 0, 1) := by decide +kernel
theorem dX12_goesRound_44 : decode cX12_goesRound 44 = .ok (.istore_n 3, 1) := by decide +kernel
theorem dX12_goesRound_45 : decode cX12_goesRound 45 = .ok (.iload_n 3, 1) := by decide +kernel
theorem dX12_goesRound_46 : decode cX12_goesRound 46 = .ok (.aload_n 0, 1) := by decide +kernel
theorem dX12_goesRound_47 : decode cX12_goesRound 47 = .ok (.getfield 64, 3) := by decide +kernel
theorem dX12_goesRound_50 : decode cX12_goesRound 50 = .ok (.iload_n 2, 1) := by decide +kernel
theorem dX12_goesRound_51 : decode cX12_goesRound 51 = .ok (.iaload, 1) := by decide +kernel
theorem dX12_goesRound_52 : decode cX12_goesRound 52 = .ok (.if_icmp .ge 48, 3) := by decide +kernel
theorem dX12_goesRound_55 : decode cX12_goesRound 55 = .ok (.aload_n 0, 1) := by decide +kernel
theorem dX12_goesRound_56 : decode cX12_goesRound 56 = .ok (.getfield 22, 3) := by decide +kernel
theorem dX12_goesRound_59 : decode cX12_goesRound 59 = .ok (.iconst 1, 1) := by decide +kernel
theorem dX12_goesRound_60 : decode cX12_goesRound 60 = .ok (.dup2, 1) := by decide +kernel
theorem dX12_goesRound_61 : decode cX12_goesRound 61 = .ok (.iaload, 1) := by decide +kernel
theorem dX12_goesRound_62 : decode cX12_goesRound 62 = .ok (.aload_n 0, 1) := by decide +kernel
theorem dX12_goesRound_63 : decode cX12_goesRound 63 = .ok (.getfield 61, 3) := by decide +kernel
theorem dX12_goesRound_66 : decode cX12_goesRound 66 = .ok (.sipush 1000, 3) := by decide +kernel
theorem dX12_goesRound_69 : decode cX12_goesRound 69 = .ok (.iload_n 2, 1) := by decide +kernel
theorem dX12_goesRound_70 : decode cX12_goesRound 70 = .ok (.imul, 1) := by decide +kernel
theorem dX12_goesRound_71 : decode cX12_goesRound 71 = .ok (.iconst 5, 1) := by decide +kernel
theorem dX12_goesRound_72 : decode cX12_goesRound 72 = .ok (.iload_n 3, 1) := by decide +kernel
theorem dX12_goesRound_73 : decode cX12_goesRound 73 = .ok (.imul, 1) := by decide +kernel
theorem dX12_goesRound_74 : decode cX12_goesRound 74 = .ok (.iadd, 1) := by decide +kernel
theorem dX12_goesRound_75 : decode cX12_goesRound 75 = .ok (.iconst 4, 1) := by decide +kernel
theorem dX12_goesRound_76 : decode cX12_goesRound 76 = .ok (.iadd, 1) := by decide +kernel
theorem dX12_goesRound_77 : decode cX12_goesRound 77 = .ok (.iaload, 1) := by decide +kernel
theorem dX12_goesRound_78 : decode cX12_goesRound 78 = .ok (.aload_n 0, 1) := by decide +kernel
theorem dX12_goesRound_79 : decode cX12_goesRound 79 = .ok (.getfield 19, 3) := by decide +kernel
theorem dX12_goesRound_82 : decode cX12_goesRound 82 = .ok (.iconst 1, 1) := by decide +kernel
theorem dX12_goesRound_83 : decode cX12_goesRound 83 = .ok (.iaload, 1) := by decide +kernel
theorem dX12_goesRound_84 : decode cX12_goesRound 84 = .ok (.if_icmp .le 7, 3) := by decide +kernel
theorem dX12_goesRound_87 : decode cX12_goesRound 87 = .ok (.iconst 1, 1) := by decide +kernel
theorem dX12_goesRound_88 : decode cX12_goesRound 88 = .ok (.goto 4, 3) := by decide +kernel
theorem dX12_goesRound_91 : decode cX12_goesRound 91 = .ok (.iconst 0, 1) := by decide +kernel
theorem dX12_goesRound_92 : decode cX12_goesRound 92 = .ok (.iadd, 1) := by decide +kernel
theorem dX12_goesRound_93 : decode cX12_goesRound 93 = .ok (.iastore, 1) := by decide +kernel
theorem dX12_goesRound_94 : decode cX12_goesRound 94 = .ok (.iinc 3 1, 3) := by decide +kernel
theorem dX12_goesRound_97 : decode cX12_goesRound 97 = .ok (.goto (-52), 3) := by decide +kernel
theorem dX12_goesRound_100 : decode cX12_goesRound 100 = .ok (.iinc 2 1, 3) := by decide +kernel
theorem dX12_goesRound_103 : decode cX12_goesRound 103 = .ok (.goto (-70), 3) := by decide +kernel
theorem dX12_goesRound_106 : decode cX12_goesRound 106 = .ok (.iconst 0, 1) := by decide +kernel
theorem dX12_goesRound_107 : decode cX12_goesRound 107 = .ok (.istore_n 2, 1) := by decide +kernel
theorem dX12_goesRound_108 : decode cX12_goesRound 108 = .ok (.aload_n 0, 1) := by decide +kernel
theorem dX12_goesRound_109 : decode cX12_goesRound 109 = .ok (.getfield 19, 3) := by decide +kernel
theorem dX12_goesRound_112 : decode cX12_goesRound 112 = .ok (.iconst 0, 1) := by decide +kernel
theorem dX12_goesRound_113 : decode cX12_goesRound 113 = .ok (.iaload, 1) := by decide +kernel
theorem dX12_goesRound_114 : decode cX12_goesRound 114 = .ok (.iconst 1, 1) := by decide +kernel
theorem dX12_goesRound_115 : decode cX12_goesRound 115 = .ok (.if_icmp .ne 8, 3) := by decide +kernel
theorem dX12_goesRound_118 : decode cX12_goesRound 118 = .ok (.bipush 10, 2) := by decide +kernel
theorem dX12_goesRound_120 : decode cX12_goesRound 120 = .ok (.goto 19, 3) := by decide +kernel
theorem dX12_goesRound_123 : decode cX12_goesRound 123 = .ok (.aload_n 0, 1) := by decide +kernel
theorem dX12_goesRound_124 : decode cX12_goesRound 124 = .ok (.getfield 19, 3) := by decide +kernel
theorem dX12_goesRound_127 : decode cX12_goesRound 127 = .ok (.iconst 0, 1) := by decide +kernel
theorem dX12_goesRound_128 : decode cX12_goesRound 128 = .ok (.iaload, 1) := by decide +kernel
theorem dX12_goesRound_129 : decode cX12_goesRound 129 = .ok (.iconst 3, 1) := by decide +kernel
theorem dX12_goesRound_130 : decode cX12_goesRound 130 = .ok (.if_icmp .ne 8, 3) := by decide +kernel
theorem dX12_goesRound_133 : decode cX12_goesRound 133 = .ok (.bipush 50, 2) := by decide +kernel
theorem dX12_goesRound_135 : decode cX12_goesRound 135 = .ok (.goto 4, 3) := by decide +kernel
theorem dX12_goesRound_138 : decode cX12_goesRound 138 = .ok (.iconst 1, 1) := by decide +kernel
theorem dX12_goesRound_139 : decode cX12_goesRound 139 = .ok (.istore_n 3, 1) := by decide +kernel
theorem dX12_goesRound_140 : decode cX12_goesRound 140 = .ok (.iconst 0, 1) := by decide +kernel
theorem dX12_goesRound_141 : decode cX12_goesRound 141 = .ok (.istore 4, 2) := by decide +kernel
theorem dX12_goesRound_143 : decode cX12_goesRound 143 = .ok (.iload 4, 2) := by decide +kernel
theorem dX12_goesRound_145 : decode cX12_goesRound 145 = .ok (.iload_n 3, 1) := by decide +kernel
theorem dX12_goesRound_146 : decode cX12_goesRound 146 = .ok (.if_icmp .ge 84, 3) := by decide +kernel
theorem dX12_goesRound_149 : decode cX12_goesRound 149 = .ok (.iconst 0, 1) := by decide +kernel
theorem dX12_goesRound_150 : decode cX12_goesRound 150 = .ok (.istore 5, 2) := by decide +kernel
theorem dX12_goesRound_152 : decode cX12_goesRound 152 = .ok (.iload 5, 2) := by decide +kernel
theorem dX12_goesRound_154 : decode cX12_goesRound 154 = .ok (.iload_n 1, 1) := by decide +kernel
theorem dX12_goesRound_155 : decode cX12_goesRound 155 = .ok (.if_icmp .ge 69, 3) := by decide +kernel
theorem dX12_goesRound_158 : decode cX12_goesRound 158 = .ok (.iload_n 2, 1) := by decide +kernel
theorem dX12_goesRound_159 : decode cX12_goesRound 159 = .ok (.aload_n 0, 1) := by decide +kernel
theorem dX12_goesRound_160 : decode cX12_goesRound 160 = .ok (.aload_n 0, 1) := by decide +kernel
theorem dX12_goesRound_161 : decode cX12_goesRound 161 = .ok (.getfield 19, 3) := by decide +kernel
theorem dX12_goesRound_164 : decode cX12_goesRound 164 = .ok (.iconst 0, 1) := by decide +kernel
theorem dX12_goesRound_165 : decode cX12_goesRound 165 = .ok (.iaload, 1) := by decide +kernel
theorem dX12_goesRound_166 : decode cX12_goesRound 166 = .ok (.iconst 2, 1) := by decide +kernel
theorem dX12_goesRound_167 : decode cX12_goesRound 167 = .ok (.if_icmp .ne 12, 3) := by decide +kernel
theorem dX12_goesRound_170 : decode cX12_goesRound 170 = .ok (.iload_n 1, 1) := by decide +kernel
theorem dX12_goesRound_171 : decode cX12_goesRound 171 = .ok (.iconst 1, 1) := by decide +kernel
theorem dX12_goesRound_172 : decode cX12_goesRound 172 = .ok (.isub, 1) := by decide +kernel
theorem dX12_goesRound_173 : decode cX12_goesRound 173 = .ok (.iload 5, 2) := by decide +kernel
theorem dX12_goesRound_175 : decode cX12_goesRound 175 = .ok (.isub, 1) := by decide +kernel
theorem dX12_goesRound_176 : decode cX12_goesRound 176 = .ok (.goto 5, 3) := by decide +kernel
theorem dX12_goesRound_179 : decode cX12_goesRound 179 = .ok (.iload 5, 2) := by decide +kernel
theorem dX12_goesRound_181 : decode cX12_goesRound 181 = .ok (.aload_n 0, 1) := by decide +kernel
theorem dX12_goesRound_182 : decode cX12_goesRound 182 = .ok (.getfield 19, 3) := by decide +kernel
theorem dX12_goesRound_185 : decode cX12_goesRound 185 = .ok (.iconst 0, 1) := by decide +kernel
theorem dX12_goesRound_186 : decode cX12_goesRound 186 = .ok (.iaload, 1) := by decide +kernel
theorem dX12_goesRound_187 : decode cX12_goesRound 187 = .ok (.iconst 1, 1) := by decide +kernel
theorem dX12_goesRound_188 : decode cX12_goesRound 188 = .ok (.if_icmp .ne 8, 3) := by decide +kernel
theorem dX12_goesRound_191 : decode cX12_goesRound 191 = .ok (.iload 4, 2) := by decide +kernel
theorem dX12_goesRound_193 : decode cX12_goesRound 193 = .ok (.goto 4, 3) := by decide +kernel
theorem dX12_goesRound_196 : decode cX12_goesRound 196 = .ok (.iconst (-1), 1) := by decide +kernel
theorem dX12_goesRound_197 : decode cX12_goesRound 197 = .ok (.aload_n 0, 1) := by decide +kernel
theorem dX12_goesRound_198 : decode cX12_goesRound 198 = .ok (.getfield 19, 3) := by decide +kernel
theorem dX12_goesRound_201 : decode cX12_goesRound 201 = .ok (.iconst 0, 1) := by decide +kernel
theorem dX12_goesRound_202 : decode cX12_goesRound 202 = .ok (.iaload, 1) := by decide +kernel
theorem dX12_goesRound_203 : decode cX12_goesRound 203 = .ok (.iconst 3, 1) := by decide +kernel
theorem dX12_goesRound_204 : decode cX12_goesRound 204 = .ok (.if_icmp .ne 8, 3) := by decide +kernel
theorem dX12_goesRound_207 : decode cX12_goesRound 207 = .ok (.iload 4, 2) := by decide +kernel
theorem dX12_goesRound_209 : decode cX12_goesRound 209 = .ok (.goto 4, 3) := by decide +kernel
theorem dX12_goesRound_212 : decode cX12_goesRound 212 = .ok (.iconst (-1), 1) := by decide +kernel
theorem dX12_goesRound_213 : decode cX12_goesRound 213 = .ok (.invokevirtual 185, 3) := by decide +kernel
theorem dX12_goesRound_216 : decode cX12_goesRound 216 = .ok (.iadd, 1) := by decide +kernel
theorem dX12_goesRound_217 : decode cX12_goesRound 217 = .ok (.istore_n 2, 1) := by decide +kernel
theorem dX12_goesRound_218 : decode cX12_goesRound 218 = .ok (.iinc 5 1, 3) := by decide +kernel
theorem dX12_goesRound_221 : decode cX12_goesRound 221 = .ok (.goto (-69), 3) := by decide +kernel
theorem dX12_goesRound_224 : decode cX12_goesRound 224 = .ok (.iinc 4 1, 3) := by decide +kernel
theorem dX12_goesRound_227 : decode cX12_goesRound 227 = .ok (.goto (-84), 3) := by decide +kernel
theorem dX12_goesRound_230 : decode cX12_goesRound 230 = .ok (.iload_n 2, 1) := by decide +kernel
theorem dX12_goesRound_231 : decode cX12_goesRound 231 = .ok (.ireturn, 1) := by decide +kernel
theorem dX12_round_0 : decode cX12_round 0 = .ok (.aload_n 0, 1) := by decide +kernel
theorem dX12_round_1 : decode cX12_round 1 = .ok (.invokevirtual 116, 3) := by decide +kernel
theorem dX12_round_4 : decode cX12_round 4 = .ok (.aload_n 0, 1) := by decide +kernel
theorem dX12_round_5 : decode cX12_round 5 = .ok (.invokevirtual 188, 3) := by decide +kernel
theorem dX12_round_8 : decode cX12_round 8 = .ok (.ireturn, 1) := by decide +kernel
theorem dX12_rounds_0 : decode cX12_rounds 0 = .ok (.iload_n 1, 1) := by decide +kernel
theorem dX12_rounds_1 : decode cX12_rounds 1 = .ok (.iconst 1, 1) := by decide +kernel
theorem dX12_rounds_2 : decode cX12_rounds 2 = .ok (.bipush 9, 2) := by decide +kernel
theorem dX12_rounds_4 : decode cX12_rounds 4 = .ok (.invokestatic 79, 3) := by decide +kernel
theorem dX12_rounds_7 : decode cX12_rounds 7 = .ok (.ifCond .ne 10, 3) := by decide +kernel
theorem dX12_rounds_10 : decode cX12_rounds 10 = .ok (.aload_n 0, 1) := by decide +kernel
theorem dX12_rounds_11 : decode cX12_rounds 11 = .ok (.bipush (-2), 2) := by decide +kernel
theorem dX12_rounds_13 : decode cX12_rounds 13 = .ok (.invokevirtual 113, 3) := by decide +kernel
theorem dX12_rounds_16 : decode cX12_rounds 16 = .ok (.ireturn, 1) := by decide +kernel
theorem dX12_rounds_17 : decode cX12_rounds 17 = .ok (.aload_n 0, 1) := by decide +kernel
theorem dX12_rounds_18 : decode cX12_rounds 18 = .ok (.invokevirtual 116, 3) := by decide +kernel
theorem dX12_rounds_21 : decode cX12_rounds 21 = .ok (.iconst 0, 1) := by decide +kernel
theorem dX12_rounds_22 : decode cX12_rounds 22 = .ok (.istore_n 2, 1) := by decide +kernel
theorem dX12_rounds_23 : decode cX12_rounds 23 = .ok (.iconst 0, 1) := by decide +kernel
theorem dX12_rounds_24 : decode cX12_rounds 24 = .ok (.istore_n 3, 1) := by decide +kernel
theorem dX12_rounds_25 : decode cX12_rounds 25 = .ok (.iload_n 3, 1) := by decide +kernel
theorem dX12_rounds_26 : decode cX12_rounds 26 = .ok (.iload_n 1, 1) := by decide +kernel
theorem dX12_rounds_27 : decode cX12_rounds 27 = .ok (.if_icmp .ge 19, 3) := by decide +kernel
theorem dX12_rounds_30 : decode cX12_rounds 30 = .ok (.aload_n 0, 1) := by decide +kernel
theorem dX12_rounds_31 : decode cX12_rounds 31 = .ok (.invokevirtual 188, 3) := by decide +kernel
theorem dX12_rounds_34 : decode cX12_rounds 34 = .ok (.ifCond .le 12, 3) := by decide +kernel
theorem dX12_rounds_37 : decode cX12_rounds 37 = .ok (.iinc 2 1, 3) := by decide +kernel
theorem dX12_rounds_40 : decode cX12_rounds 40 = .ok (.iinc 3 1, 3) := by decide +kernel
theorem dX12_rounds_43 : decode cX12_rounds 43 = .ok (.goto (-18), 3) := by decide +kernel
theorem dX12_rounds_46 : decode cX12_rounds 46 = .ok (.iload_n 2, 1) := by decide +kernel
theorem dX12_rounds_47 : decode cX12_rounds 47 = .ok (.ireturn, 1) := by decide +kernel
theorem dX12_last_0 : decode cX12_last 0 = .ok (.iload_n 1, 1) := by decide +kernel
theorem dX12_last_1 : decode cX12_last 1 = .ok (.iconst 0, 1) := by decide +kernel
theorem dX12_last_2 : decode cX12_last 2 = .ok (.iconst 4, 1) := by decide +kernel
theorem dX12_last_3 : decode cX12_last 3 = .ok (.invokestatic 79, 3) := by decide +kernel
theorem dX12_last_6 : decode cX12_last 6 = .ok (.ifCond .eq 12, 3) := by decide +kernel
theorem dX12_last_9 : decode cX12_last 9 = .ok (.aload_n 0, 1) := by decide +kernel
theorem dX12_last_10 : decode cX12_last 10 = .ok (.getfield 22, 3) := by decide +kernel
theorem dX12_last_13 : decode cX12_last 13 = .ok (.iload_n 1, 1) := by decide +kernel
theorem dX12_last_14 : decode cX12_last 14 = .ok (.iaload, 1) := by decide +kernel
theorem dX12_last_15 : decode cX12_last 15 = .ok (.goto 9, 3) := by decide +kernel
theorem dX12_last_18 : decode cX12_last 18 = .ok (.aload_n 0, 1) := by decide +kernel
theorem dX12_last_19 : decode cX12_last 19 = .ok (.bipush (-2), 2) := by decide +kernel
theorem dX12_last_21 : decode cX12_last 21 = .ok (.invokevirtual 113, 3) := by decide +kernel
theorem dX12_last_24 : decode cX12_last 24 = .ok (.ireturn, 1) := by decide +kernel
theorem dX12_still_0 : decode cX12_still 0 = .ok (.iconst 0, 1) := by decide +kernel
theorem dX12_still_1 : decode cX12_still 1 = .ok (.istore_n 1, 1) := by decide +kernel
theorem dX12_still_2 : decode cX12_still 2 = .ok (.iload_n 1, 1) := by decide +kernel
theorem dX12_still_3 : decode cX12_still 3 = .ok (.sipush 984, 3) := by decide +kernel
theorem dX12_still_6 : decode cX12_still 6 = .ok (.if_icmp .ge 21, 3) := by decide +kernel
theorem dX12_still_9 : decode cX12_still 9 = .ok (.aload_n 0, 1) := by decide +kernel
theorem dX12_still_10 : decode cX12_still 10 = .ok (.getfield 16, 3) := by decide +kernel
theorem dX12_still_13 : decode cX12_still 13 = .ok (.iload_n 1, 1) := by decide +kernel
theorem dX12_still_14 : decode cX12_still 14 = .ok (.aload_n 0, 1) := by decide +kernel
theorem dX12_still_15 : decode cX12_still 15 = .ok (.getfield 7, 3) := by decide +kernel
theorem dX12_still_18 : decode cX12_still 18 = .ok (.iload_n 1, 1) := by decide +kernel
theorem dX12_still_19 : decode cX12_still 19 = .ok (.iaload, 1) := by decide +kernel
theorem dX12_still_20 : decode cX12_still 20 = .ok (.iastore, 1) := by decide +kernel
theorem dX12_still_21 : decode cX12_still 21 = .ok (.iinc 1 1, 3) := by decide +kernel
theorem dX12_still_24 : decode cX12_still 24 = .ok (.goto (-22), 3) := by decide +kernel
theorem dX12_still_27 : decode cX12_still 27 = .ok (.iconst 0, 1) := by decide +kernel
theorem dX12_still_28 : decode cX12_still 28 = .ok (.istore_n 1, 1) := by decide +kernel
theorem dX12_still_29 : decode cX12_still 29 = .ok (.iload_n 1, 1) := by decide +kernel
theorem dX12_still_30 : decode cX12_still 30 = .ok (.iconst 5, 1) := by decide +kernel
theorem dX12_still_31 : decode cX12_still 31 = .ok (.if_icmp .ge 21, 3) := by decide +kernel
theorem dX12_still_34 : decode cX12_still 34 = .ok (.aload_n 0, 1) := by decide +kernel
theorem dX12_still_35 : decode cX12_still 35 = .ok (.getfield 25, 3) := by decide +kernel
theorem dX12_still_38 : decode cX12_still 38 = .ok (.iload_n 1, 1) := by decide +kernel
theorem dX12_still_39 : decode cX12_still 39 = .ok (.aload_n 0, 1) := by decide +kernel
theorem dX12_still_40 : decode cX12_still 40 = .ok (.getfield 22, 3) := by decide +kernel
theorem dX12_still_43 : decode cX12_still 43 = .ok (.iload_n 1, 1) := by decide +kernel
theorem dX12_still_44 : decode cX12_still 44 = .ok (.iaload, 1) := by decide +kernel
theorem dX12_still_45 : decode cX12_still 45 = .ok (.iastore, 1) := by decide +kernel
theorem dX12_still_46 : decode cX12_still 46 = .ok (.iinc 1 1, 3) := by decide +kernel
theorem dX12_still_49 : decode cX12_still 49 = .ok (.goto (-20), 3) := by decide +kernel
theorem dX12_still_52 : decode cX12_still 52 = .ok (.aload_n 0, 1) := by decide +kernel
theorem dX12_still_53 : decode cX12_still 53 = .ok (.invokevirtual 188, 3) := by decide +kernel
theorem dX12_still_56 : decode cX12_still 56 = .ok (.istore_n 1, 1) := by decide +kernel
theorem dX12_still_57 : decode cX12_still 57 = .ok (.iconst 0, 1) := by decide +kernel
theorem dX12_still_58 : decode cX12_still 58 = .ok (.istore_n 2, 1) := by decide +kernel
theorem dX12_still_59 : decode cX12_still 59 = .ok (.iload_n 2, 1) := by decide +kernel
theorem dX12_still_60 : decode cX12_still 60 = .ok (.sipush 984, 3) := by decide +kernel
theorem dX12_still_63 : decode cX12_still 63 = .ok (.if_icmp .ge 21, 3) := by decide +kernel
theorem dX12_still_66 : decode cX12_still 66 = .ok (.aload_n 0, 1) := by decide +kernel
theorem dX12_still_67 : decode cX12_still 67 = .ok (.getfield 7, 3) := by decide +kernel
theorem dX12_still_70 : decode cX12_still 70 = .ok (.iload_n 2, 1) := by decide +kernel
theorem dX12_still_71 : decode cX12_still 71 = .ok (.aload_n 0, 1) := by decide +kernel
theorem dX12_still_72 : decode cX12_still 72 = .ok (.getfield 16, 3) := by decide +kernel
theorem dX12_still_75 : decode cX12_still 75 = .ok (.iload_n 2, 1) := by decide +kernel
theorem dX12_still_76 : decode cX12_still 76 = .ok (.iaload, 1) := by decide +kernel
theorem dX12_still_77 : decode cX12_still 77 = .ok (.iastore, 1) := by decide +kernel
theorem dX12_still_78 : decode cX12_still 78 = .ok (.iinc 2 1, 3) := by decide +kernel
theorem dX12_still_81 : decode cX12_still 81 = .ok (.goto (-22), 3) := by decide +kernel
theorem dX12_still_84 : decode cX12_still 84 = .ok (.iconst 0, 1) := by decide +kernel
theorem dX12_still_85 : decode cX12_still 85 = .ok (.istore_n 2, 1) := by decide +kernel
theorem dX12_still_86 : decode cX12_still 86 = .ok (.iload_n 2, 1) := by decide +kernel
theorem dX12_still_87 : decode cX12_still 87 = .ok (.iconst 5, 1) := by decide +kernel
theorem dX12_still_88 : decode cX12_still 88 = .ok (.if_icmp .ge 21, 3) := by decide +kernel
theorem dX12_still_91 : decode cX12_still 91 = .ok (.aload_n 0, 1) := by decide +kernel
theorem dX12_still_92 : decode cX12_still 92 = .ok (.getfield 22, 3) := by decide +kernel
theorem dX12_still_95 : decode cX12_still 95 = .ok (.iload_n 2, 1) := by decide +kernel
theorem dX12_still_96 : decode cX12_still 96 = .ok (.aload_n 0, 1) := by decide +kernel
theorem dX12_still_97 : decode cX12_still 97 = .ok (.getfield 25, 3) := by decide +kernel
theorem dX12_still_100 : decode cX12_still 100 = .ok (.iload_n 2, 1) := by decide +kernel
theorem dX12_still_101 : decode cX12_still 101 = .ok (.iaload, 1) := by decide +kernel
theorem dX12_still_102 : decode cX12_still 102 = .ok (.iastore, 1) := by decide +kernel
theorem dX12_still_103 : decode cX12_still 103 = .ok (.iinc 2 1, 3) := by decide +kernel
theorem dX12_still_106 : decode cX12_still 106 = .ok (.goto (-20), 3) := by decide +kernel
theorem dX12_still_109 : decode cX12_still 109 = .ok (.iload_n 1, 1) := by decide +kernel
theorem dX12_still_110 : decode cX12_still 110 = .ok (.ifCond .ne 7, 3) := by decide +kernel
theorem dX12_still_113 : decode cX12_still 113 = .ok (.iconst 1, 1) := by decide +kernel
theorem dX12_still_114 : decode cX12_still 114 = .ok (.goto 4, 3) := by decide +kernel
theorem dX12_still_117 : decode cX12_still 117 = .ok (.iconst 0, 1) := by decide +kernel
theorem dX12_still_118 : decode cX12_still 118 = .ok (.ireturn, 1) := by decide +kernel
theorem dX12_type_0 : decode cX12_type 0 = .ok (.iload_n 1, 1) := by decide +kernel
theorem dX12_type_1 : decode cX12_type 1 = .ok (.iconst 0, 1) := by decide +kernel
theorem dX12_type_2 : decode cX12_type 2 = .ok (.bipush 127, 2) := by decide +kernel
theorem dX12_type_4 : decode cX12_type 4 = .ok (.invokestatic 79, 3) := by decide +kernel
theorem dX12_type_7 : decode cX12_type 7 = .ok (.ifCond .ne 10, 3) := by decide +kernel
theorem dX12_type_10 : decode cX12_type 10 = .ok (.aload_n 0, 1) := by decide +kernel
theorem dX12_type_11 : decode cX12_type 11 = .ok (.bipush (-2), 2) := by decide +kernel
theorem dX12_type_13 : decode cX12_type 13 = .ok (.invokevirtual 113, 3) := by decide +kernel
theorem dX12_type_16 : decode cX12_type 16 = .ok (.ireturn, 1) := by decide +kernel
theorem dX12_type_17 : decode cX12_type 17 = .ok (.aload_n 0, 1) := by decide +kernel
theorem dX12_type_18 : decode cX12_type 18 = .ok (.getfield 192, 3) := by decide +kernel
theorem dX12_type_21 : decode cX12_type 21 = .ok (.bipush 120, 2) := by decide +kernel
theorem dX12_type_23 : decode cX12_type 23 = .ok (.if_icmp .ne 10, 3) := by decide +kernel
theorem dX12_type_26 : decode cX12_type 26 = .ok (.aload_n 0, 1) := by decide +kernel
theorem dX12_type_27 : decode cX12_type 27 = .ok (.bipush (-4), 2) := by decide +kernel
theorem dX12_type_29 : decode cX12_type 29 = .ok (.invokevirtual 113, 3) := by decide +kernel
theorem dX12_type_32 : decode cX12_type 32 = .ok (.ireturn, 1) := by decide +kernel
theorem dX12_type_33 : decode cX12_type 33 = .ok (.aload_n 0, 1) := by decide +kernel
theorem dX12_type_34 : decode cX12_type 34 = .ok (.getfield 31, 3) := by decide +kernel
theorem dX12_type_37 : decode cX12_type 37 = .ok (.aload_n 0, 1) := by decide +kernel
theorem dX12_type_38 : decode cX12_type 38 = .ok (.getfield 192, 3) := by decide +kernel
theorem dX12_type_41 : decode cX12_type 41 = .ok (.iload_n 1, 1) := by decide +kernel
theorem dX12_type_42 : decode cX12_type 42 = .ok (.iastore, 1) := by decide +kernel
theorem dX12_type_43 : decode cX12_type 43 = .ok (.aload_n 0, 1) := by decide +kernel
theorem dX12_type_44 : decode cX12_type 44 = .ok (.dup, 1) := by decide +kernel
theorem dX12_type_45 : decode cX12_type 45 = .ok (.getfield 192, 3) := by decide +kernel
theorem dX12_type_48 : decode cX12_type 48 = .ok (.iconst 1, 1) := by decide +kernel
theorem dX12_type_49 : decode cX12_type 49 = .ok (.iadd, 1) := by decide +kernel
theorem dX12_type_50 : decode cX12_type 50 = .ok (.putfield 192, 3) := by decide +kernel
theorem dX12_type_53 : decode cX12_type 53 = .ok (.aload_n 0, 1) := by decide +kernel
theorem dX12_type_54 : decode cX12_type 54 = .ok (.getfield 192, 3) := by decide +kernel
theorem dX12_type_57 : decode cX12_type 57 = .ok (.ireturn, 1) := by decide +kernel
theorem dX12_clear_0 : decode cX12_clear 0 = .ok (.aload_n 0, 1) := by decide +kernel
theorem dX12_clear_1 : decode cX12_clear 1 = .ok (.getfield 192, 3) := by decide +kernel
theorem dX12_clear_4 : decode cX12_clear 4 = .ok (.istore_n 1, 1) := by decide +kernel
theorem dX12_clear_5 : decode cX12_clear 5 = .ok (.aload_n 0, 1) := by decide +kernel
theorem dX12_clear_6 : decode cX12_clear 6 = .ok (.iconst 0, 1) := by decide +kernel
theorem dX12_clear_7 : decode cX12_clear 7 = .ok (.putfield 192, 3) := by decide +kernel
theorem dX12_clear_10 : decode cX12_clear 10 = .ok (.iload_n 1, 1) := by decide +kernel
theorem dX12_clear_11 : decode cX12_clear 11 = .ok (.ireturn, 1) := by decide +kernel
theorem dX12_byteAt_0 : decode cX12_byteAt 0 = .ok (.iload_n 1, 1) := by decide +kernel
theorem dX12_byteAt_1 : decode cX12_byteAt 1 = .ok (.aload_n 0, 1) := by decide +kernel
theorem dX12_byteAt_2 : decode cX12_byteAt 2 = .ok (.getfield 192, 3) := by decide +kernel
theorem dX12_byteAt_5 : decode cX12_byteAt 5 = .ok (.if_icmp .ge 12, 3) := by decide +kernel
theorem dX12_byteAt_8 : decode cX12_byteAt 8 = .ok (.aload_n 0, 1) := by decide +kernel
theorem dX12_byteAt_9 : decode cX12_byteAt 9 = .ok (.getfield 31, 3) := by decide +kernel
theorem dX12_byteAt_12 : decode cX12_byteAt 12 = .ok (.iload_n 1, 1) := by decide +kernel
theorem dX12_byteAt_13 : decode cX12_byteAt 13 = .ok (.iaload, 1) := by decide +kernel
theorem dX12_byteAt_14 : decode cX12_byteAt 14 = .ok (.goto 4, 3) := by decide +kernel
theorem dX12_byteAt_17 : decode cX12_byteAt 17 = .ok (.iconst (-1), 1) := by decide +kernel
theorem dX12_byteAt_18 : decode cX12_byteAt 18 = .ok (.ireturn, 1) := by decide +kernel
theorem dX12_skips_0 : decode cX12_skips 0 = .ok (.aload_n 0, 1) := by decide +kernel
theorem dX12_skips_1 : decode cX12_skips 1 = .ok (.aload_n 0, 1) := by decide +kernel
theorem dX12_skips_2 : decode cX12_skips 2 = .ok (.getfield 195, 3) := by decide +kernel
theorem dX12_skips_5 : decode cX12_skips 5 = .ok (.invokevirtual 198, 3) := by decide +kernel
theorem dX12_skips_8 : decode cX12_skips 8 = .ok (.bipush 32, 2) := by decide +kernel
theorem dX12_skips_10 : decode cX12_skips 10 = .ok (.if_icmp .ne 16, 3) := by decide +kernel
theorem dX12_skips_13 : decode cX12_skips 13 = .ok (.aload_n 0, 1) := by decide +kernel
theorem dX12_skips_14 : decode cX12_skips 14 = .ok (.dup, 1) := by decide +kernel
theorem dX12_skips_15 : decode cX12_skips 15 = .ok (.getfield 195, 3) := by decide +kernel
theorem dX12_skips_18 : decode cX12_skips 18 = .ok (.iconst 1, 1) := by decide +kernel
theorem dX12_skips_19 : decode cX12_skips 19 = .ok (.iadd, 1) := by decide +kernel
theorem dX12_skips_20 : decode cX12_skips 20 = .ok (.putfield 195, 3) := by decide +kernel
theorem dX12_skips_23 : decode cX12_skips 23 = .ok (.goto (-23), 3) := by decide +kernel
theorem dX12_skips_26 : decode cX12_skips 26 = .ok (.return_, 1) := by decide +kernel
theorem dX12_is_0 : decode cX12_is 0 = .ok (.aload_n 0, 1) := by decide +kernel
theorem dX12_is_1 : decode cX12_is 1 = .ok (.invokevirtual 201, 3) := by decide +kernel
theorem dX12_is_4 : decode cX12_is 4 = .ok (.aload_n 0, 1) := by decide +kernel
theorem dX12_is_5 : decode cX12_is 5 = .ok (.aload_n 0, 1) := by decide +kernel
theorem dX12_is_6 : decode cX12_is 6 = .ok (.getfield 195, 3) := by decide +kernel
theorem dX12_is_9 : decode cX12_is 9 = .ok (.invokevirtual 198, 3) := by decide +kernel
theorem dX12_is_12 : decode cX12_is 12 = .ok (.iload_n 1, 1) := by decide +kernel
theorem dX12_is_13 : decode cX12_is 13 = .ok (.if_icmp .ne 7, 3) := by decide +kernel
theorem dX12_is_16 : decode cX12_is 16 = .ok (.iconst 1, 1) := by decide +kernel
theorem dX12_is_17 : decode cX12_is 17 = .ok (.goto 4, 3) := by decide +kernel
theorem dX12_is_20 : decode cX12_is 20 = .ok (.iconst 0, 1) := by decide +kernel
theorem dX12_is_21 : decode cX12_is 21 = .ok (.istore_n 2, 1) := by decide +kernel
theorem dX12_is_22 : decode cX12_is 22 = .ok (.aload_n 0, 1) := by decide +kernel
theorem dX12_is_23 : decode cX12_is 23 = .ok (.dup, 1) := by decide +kernel
theorem dX12_is_24 : decode cX12_is 24 = .ok (.getfield 195, 3) := by decide +kernel
theorem dX12_is_27 : decode cX12_is 27 = .ok (.iload_n 2, 1) := by decide +kernel
theorem dX12_is_28 : decode cX12_is 28 = .ok (.ifCond .eq 7, 3) := by decide +kernel
theorem dX12_is_31 : decode cX12_is 31 = .ok (.iconst 1, 1) := by decide +kernel
theorem dX12_is_32 : decode cX12_is 32 = .ok (.goto 4, 3) := by decide +kernel
theorem dX12_is_35 : decode cX12_is 35 = .ok (.iconst 0, 1) := by decide +kernel
theorem dX12_is_36 : decode cX12_is 36 = .ok (.iadd, 1) := by decide +kernel
theorem dX12_is_37 : decode cX12_is 37 = .ok (.putfield 195, 3) := by decide +kernel
theorem dX12_is_40 : decode cX12_is 40 = .ok (.iload_n 2, 1) := by decide +kernel
theorem dX12_is_41 : decode cX12_is 41 = .ok (.ireturn, 1) := by decide +kernel
theorem dX12_signBy_0 : decode cX12_signBy 0 = .ok (.iload_n 0, 1) := by decide +kernel
theorem dX12_signBy_1 : decode cX12_signBy 1 = .ok (.bipush 97, 2) := by decide +kernel
theorem dX12_signBy_3 : decode cX12_signBy 3 = .ok (.bipush 100, 2) := by decide +kernel
theorem dX12_signBy_5 : decode cX12_signBy 5 = .ok (.invokestatic 79, 3) := by decide +kernel
theorem dX12_signBy_8 : decode cX12_signBy 8 = .ok (.ifCond .eq 10, 3) := by decide +kernel
theorem dX12_signBy_11 : decode cX12_signBy 11 = .ok (.iload_n 0, 1) := by decide +kernel
theorem dX12_signBy_12 : decode cX12_signBy 12 = .ok (.bipush 97, 2) := by decide +kernel
theorem dX12_signBy_14 : decode cX12_signBy 14 = .ok (.isub, 1) := by decide +kernel
theorem dX12_signBy_15 : decode cX12_signBy 15 = .ok (.goto 45, 3) := by decide +kernel
theorem dX12_signBy_18 : decode cX12_signBy 18 = .ok (.iload_n 0, 1) := by decide +kernel
theorem dX12_signBy_19 : decode cX12_signBy 19 = .ok (.bipush 102, 2) := by decide +kernel
theorem dX12_signBy_21 : decode cX12_signBy 21 = .ok (.bipush 104, 2) := by decide +kernel
theorem dX12_signBy_23 : decode cX12_signBy 23 = .ok (.invokestatic 79, 3) := by decide +kernel
theorem dX12_signBy_26 : decode cX12_signBy 26 = .ok (.ifCond .eq 12, 3) := by decide +kernel
theorem dX12_signBy_29 : decode cX12_signBy 29 = .ok (.iload_n 0, 1) := by decide +kernel
theorem dX12_signBy_30 : decode cX12_signBy 30 = .ok (.bipush 102, 2) := by decide +kernel
theorem dX12_signBy_32 : decode cX12_signBy 32 = .ok (.isub, 1) := by decide +kernel
theorem dX12_signBy_33 : decode cX12_signBy 33 = .ok (.iconst 4, 1) := by decide +kernel
theorem dX12_signBy_34 : decode cX12_signBy 34 = .ok (.iadd, 1) := by decide +kernel
theorem dX12_signBy_35 : decode cX12_signBy 35 = .ok (.goto 25, 3) := by decide +kernel
theorem dX12_signBy_38 : decode cX12_signBy 38 = .ok (.iload_n 0, 1) := by decide +kernel
theorem dX12_signBy_39 : decode cX12_signBy 39 = .ok (.bipush 120, 2) := by decide +kernel
theorem dX12_signBy_41 : decode cX12_signBy 41 = .ok (.bipush 122, 2) := by decide +kernel
theorem dX12_signBy_43 : decode cX12_signBy 43 = .ok (.invokestatic 79, 3) := by decide +kernel
theorem dX12_signBy_46 : decode cX12_signBy 46 = .ok (.ifCond .eq 13, 3) := by decide +kernel
theorem dX12_signBy_49 : decode cX12_signBy 49 = .ok (.iload_n 0, 1) := by decide +kernel
theorem dX12_signBy_50 : decode cX12_signBy 50 = .ok (.bipush 120, 2) := by decide +kernel
theorem dX12_signBy_52 : decode cX12_signBy 52 = .ok (.isub, 1) := by decide +kernel
theorem dX12_signBy_53 : decode cX12_signBy 53 = .ok (.bipush 7, 2) := by decide +kernel
theorem dX12_signBy_55 : decode cX12_signBy 55 = .ok (.iadd, 1) := by decide +kernel
theorem dX12_signBy_56 : decode cX12_signBy 56 = .ok (.goto 4, 3) := by decide +kernel
theorem dX12_signBy_59 : decode cX12_signBy 59 = .ok (.iconst (-1), 1) := by decide +kernel
theorem dX12_signBy_60 : decode cX12_signBy 60 = .ok (.ireturn, 1) := by decide +kernel
theorem dX12_side_0 : decode cX12_side 0 = .ok (.aload_n 0, 1) := by decide +kernel
theorem dX12_side_1 : decode cX12_side 1 = .ok (.iconst 0, 1) := by decide +kernel
theorem dX12_side_2 : decode cX12_side 2 = .ok (.putfield 204, 3) := by decide +kernel
theorem dX12_side_5 : decode cX12_side 5 = .ok (.aload_n 0, 1) := by decide +kernel
theorem dX12_side_6 : decode cX12_side 6 = .ok (.iconst 0, 1) := by decide +kernel
theorem dX12_side_7 : decode cX12_side 7 = .ok (.putfield 207, 3) := by decide +kernel
theorem dX12_side_10 : decode cX12_side 10 = .ok (.iconst 0, 1) := by decide +kernel
theorem dX12_side_11 : decode cX12_side 11 = .ok (.istore_n 3, 1) := by decide +kernel
theorem dX12_side_12 : decode cX12_side 12 = .ok (.aload_n 0, 1) := by decide +kernel
theorem dX12_side_13 : decode cX12_side 13 = .ok (.invokevirtual 201, 3) := by decide +kernel
theorem dX12_side_16 : decode cX12_side 16 = .ok (.aload_n 0, 1) := by decide +kernel
theorem dX12_side_17 : decode cX12_side 17 = .ok (.aload_n 0, 1) := by decide +kernel
theorem dX12_side_18 : decode cX12_side 18 = .ok (.getfield 195, 3) := by decide +kernel
theorem dX12_side_21 : decode cX12_side 21 = .ok (.invokevirtual 198, 3) := by decide +kernel
theorem dX12_side_24 : decode cX12_side 24 = .ok (.invokestatic 210, 3) := by decide +kernel
theorem dX12_side_27 : decode cX12_side 27 = .ok (.istore 4, 2) := by decide +kernel
theorem dX12_side_29 : decode cX12_side 29 = .ok (.iload 4, 2) := by decide +kernel
theorem dX12_side_31 : decode cX12_side 31 = .ok (.ifCond .lt 22, 3) := by decide +kernel
theorem dX12_side_34 : decode cX12_side 34 = .ok (.iload 4, 2) := by decide +kernel
theorem dX12_side_36 : decode cX12_side 36 = .ok (.bipush 7, 2) := by decide +kernel
theorem dX12_side_38 : decode cX12_side 38 = .ok (.if_icmp .lt 17, 3) := by decide +kernel
theorem dX12_side_41 : decode cX12_side 41 = .ok (.iload_n 2, 1) := by decide +kernel
theorem dX12_side_42 : decode cX12_side 42 = .ok (.iload 4, 2) := by decide +kernel
theorem dX12_side_44 : decode cX12_side 44 = .ok (.bipush 7, 2) := by decide +kernel
theorem dX12_side_46 : decode cX12_side 46 = .ok (.isub, 1) := by decide +kernel
theorem dX12_side_47 : decode cX12_side 47 = .ok (.ishr, 1) := by decide +kernel
theorem dX12_side_48 : decode cX12_side 48 = .ok (.iconst 1, 1) := by decide +kernel
theorem dX12_side_49 : decode cX12_side 49 = .ok (.iand, 1) := by decide +kernel
theorem dX12_side_50 : decode cX12_side 50 = .ok (.ifCond .ne 5, 3) := by decide +kernel
theorem dX12_side_53 : decode cX12_side 53 = .ok (.iconst 0, 1) := by decide +kernel
theorem dX12_side_54 : decode cX12_side 54 = .ok (.ireturn, 1) := by decide +kernel
theorem dX12_side_55 : decode cX12_side 55 = .ok (.aload_n 0, 1) := by decide +kernel
theorem dX12_side_56 : decode cX12_side 56 = .ok (.dup, 1) := by decide +kernel
theorem dX12_side_57 : decode cX12_side 57 = .ok (.getfield 207, 3) := by decide +kernel
theorem dX12_side_60 : decode cX12_side 60 = .ok (.iload 4, 2) := by decide +kernel
theorem dX12_side_62 : decode cX12_side 62 = .ok (.bipush 7, 2) := by decide +kernel
theorem dX12_side_64 : decode cX12_side 64 = .ok (.if_icmp .lt 13, 3) := by decide +kernel
theorem dX12_side_67 : decode cX12_side 67 = .ok (.iconst 1, 1) := by decide +kernel
theorem dX12_side_68 : decode cX12_side 68 = .ok (.iload 4, 2) := by decide +kernel
theorem dX12_side_70 : decode cX12_side 70 = .ok (.bipush 7, 2) := by decide +kernel
theorem dX12_side_72 : decode cX12_side 72 = .ok (.isub, 1) := by decide +kernel
theorem dX12_side_73 : decode cX12_side 73 = .ok (.ishl, 1) := by decide +kernel
theorem dX12_side_74 : decode cX12_side 74 = .ok (.goto 4, 3) := by decide +kernel
theorem dX12_side_77 : decode cX12_side 77 = .ok (.iconst 0, 1) := by decide +kernel
theorem dX12_side_78 : decode cX12_side 78 = .ok (.ior, 1) := by decide +kernel
theorem dX12_side_79 : decode cX12_side 79 = .ok (.putfield 207, 3) := by decide +kernel
theorem dX12_side_82 : decode cX12_side 82 = .ok (.aload_n 0, 1) := by decide +kernel
theorem dX12_side_83 : decode cX12_side 83 = .ok (.dup, 1) := by decide +kernel
theorem dX12_side_84 : decode cX12_side 84 = .ok (.getfield 195, 3) := by decide +kernel
theorem dX12_side_87 : decode cX12_side 87 = .ok (.iconst 1, 1) := by decide +kernel
theorem dX12_side_88 : decode cX12_side 88 = .ok (.iadd, 1) := by decide +kernel
theorem dX12_side_89 : decode cX12_side 89 = .ok (.putfield 195, 3) := by decide +kernel
theorem dX12_side_92 : decode cX12_side 92 = .ok (.aload_n 1, 1) := by decide +kernel
theorem dX12_side_93 : decode cX12_side 93 = .ok (.aload_n 0, 1) := by decide +kernel
theorem dX12_side_94 : decode cX12_side 94 = .ok (.getfield 204, 3) := by decide +kernel
theorem dX12_side_97 : decode cX12_side 97 = .ok (.iload 4, 2) := by decide +kernel
theorem dX12_side_99 : decode cX12_side 99 = .ok (.iastore, 1) := by decide +kernel
theorem dX12_side_100 : decode cX12_side 100 = .ok (.aload_n 0, 1) := by decide +kernel
theorem dX12_side_101 : decode cX12_side 101 = .ok (.dup, 1) := by decide +kernel
theorem dX12_side_102 : decode cX12_side 102 = .ok (.getfield 204, 3) := by decide +kernel
theorem dX12_side_105 : decode cX12_side 105 = .ok (.iconst 1, 1) := by decide +kernel
theorem dX12_side_106 : decode cX12_side 106 = .ok (.iadd, 1) := by decide +kernel
theorem dX12_side_107 : decode cX12_side 107 = .ok (.putfield 204, 3) := by decide +kernel
theorem dX12_side_110 : decode cX12_side 110 = .ok (.iload 4, 2) := by decide +kernel
theorem dX12_side_112 : decode cX12_side 112 = .ok (.invokestatic 106, 3) := by decide +kernel
theorem dX12_side_115 : decode cX12_side 115 = .ok (.ifCond .le 31, 3) := by decide +kernel
theorem dX12_side_118 : decode cX12_side 118 = .ok (.aload_n 0, 1) := by decide +kernel
theorem dX12_side_119 : decode cX12_side 119 = .ok (.bipush 40, 2) := by decide +kernel
theorem dX12_side_121 : decode cX12_side 121 = .ok (.invokevirtual 213, 3) := by decide +kernel
theorem dX12_side_124 : decode cX12_side 124 = .ok (.ifCond .ne 5, 3) := by decide +kernel
theorem dX12_side_127 : decode cX12_side 127 = .ok (.iconst 0, 1) := by decide +kernel
theorem dX12_side_128 : decode cX12_side 128 = .ok (.ireturn, 1) := by decide +kernel
theorem dX12_side_129 : decode cX12_side 129 = .ok (.aload_n 0, 1) := by decide +kernel
theorem dX12_side_130 : decode cX12_side 130 = .ok (.getfield 46, 3) := by decide +kernel
theorem dX12_side_133 : decode cX12_side 133 = .ok (.iload_n 3, 1) := by decide +kernel
theorem dX12_side_134 : decode cX12_side 134 = .ok (.iload 4, 2) := by decide +kernel
theorem dX12_side_136 : decode cX12_side 136 = .ok (.invokestatic 106, 3) := by decide +kernel
theorem dX12_side_139 : decode cX12_side 139 = .ok (.iastore, 1) := by decide +kernel
theorem dX12_side_140 : decode cX12_side 140 = .ok (.iinc 3 1, 3) := by decide +kernel
theorem dX12_side_143 : decode cX12_side 143 = .ok (.goto 89, 3) := by decide +kernel
theorem dX12_side_146 : decode cX12_side 146 = .ok (.iconst 0, 1) := by decide +kernel
theorem dX12_side_147 : decode cX12_side 147 = .ok (.istore 5, 2) := by decide +kernel
theorem dX12_side_149 : decode cX12_side 149 = .ok (.iload_n 3, 1) := by decide +kernel
theorem dX12_side_150 : decode cX12_side 150 = .ok (.ifCond .le 75, 3) := by decide +kernel
theorem dX12_side_153 : decode cX12_side 153 = .ok (.iload 5, 2) := by decide +kernel
theorem dX12_side_155 : decode cX12_side 155 = .ok (.ifCond .ne 70, 3) := by decide +kernel
theorem dX12_side_158 : decode cX12_side 158 = .ok (.aload_n 0, 1) := by decide +kernel
theorem dX12_side_159 : decode cX12_side 159 = .ok (.getfield 46, 3) := by decide +kernel
theorem dX12_side_162 : decode cX12_side 162 = .ok (.iload_n 3, 1) := by decide +kernel
theorem dX12_side_163 : decode cX12_side 163 = .ok (.iconst 1, 1) := by decide +kernel
theorem dX12_side_164 : decode cX12_side 164 = .ok (.isub, 1) := by decide +kernel
theorem dX12_side_165 : decode cX12_side 165 = .ok (.dup2, 1) := by decide +kernel
theorem dX12_side_166 : decode cX12_side 166 = .ok (.iaload, 1) := by decide +kernel
theorem dX12_side_167 : decode cX12_side 167 = .ok (.iconst 1, 1) := by decide +kernel
theorem dX12_side_168 : decode cX12_side 168 = .ok (.isub, 1) := by decide +kernel
theorem dX12_side_169 : decode cX12_side 169 = .ok (.iastore, 1) := by decide +kernel
theorem dX12_side_170 : decode cX12_side 170 = .ok (.aload_n 0, 1) := by decide +kernel
theorem dX12_side_171 : decode cX12_side 171 = .ok (.getfield 46, 3) := by decide +kernel
theorem dX12_side_174 : decode cX12_side 174 = .ok (.iload_n 3, 1) := by decide +kernel
theorem dX12_side_175 : decode cX12_side 175 = .ok (.iconst 1, 1) := by decide +kernel
theorem dX12_side_176 : decode cX12_side 176 = .ok (.isub, 1) := by decide +kernel
theorem dX12_side_177 : decode cX12_side 177 = .ok (.iaload, 1) := by decide +kernel
theorem dX12_side_178 : decode cX12_side 178 = .ok (.ifCond .le 7, 3) := by decide +kernel
theorem dX12_side_181 : decode cX12_side 181 = .ok (.iconst 1, 1) := by decide +kernel
theorem dX12_side_182 : decode cX12_side 182 = .ok (.goto 4, 3) := by decide +kernel
theorem dX12_side_185 : decode cX12_side 185 = .ok (.iconst 0, 1) := by decide +kernel
theorem dX12_side_186 : decode cX12_side 186 = .ok (.istore 5, 2) := by decide +kernel
theorem dX12_side_188 : decode cX12_side 188 = .ok (.aload_n 0, 1) := by decide +kernel
theorem dX12_side_189 : decode cX12_side 189 = .ok (.iload 5, 2) := by decide +kernel
theorem dX12_side_191 : decode cX12_side 191 = .ok (.ifCond .eq 8, 3) := by decide +kernel
theorem dX12_side_194 : decode cX12_side 194 = .ok (.bipush 44, 2) := by decide +kernel
theorem dX12_side_196 : decode cX12_side 196 = .ok (.goto 5, 3) := by decide +kernel
theorem dX12_side_199 : decode cX12_side 199 = .ok (.bipush 41, 2) := by decide +kernel
theorem dX12_side_201 : decode cX12_side 201 = .ok (.invokevirtual 213, 3) := by decide +kernel
theorem dX12_side_204 : decode cX12_side 204 = .ok (.ifCond .ne 5, 3) := by decide +kernel
theorem dX12_side_207 : decode cX12_side 207 = .ok (.iconst 0, 1) := by decide +kernel
theorem dX12_side_208 : decode cX12_side 208 = .ok (.ireturn, 1) := by decide +kernel
theorem dX12_side_209 : decode cX12_side 209 = .ok (.iload_n 3, 1) := by decide +kernel
theorem dX12_side_210 : decode cX12_side 210 = .ok (.iload 5, 2) := by decide +kernel
theorem dX12_side_212 : decode cX12_side 212 = .ok (.ifCond .eq 7, 3) := by decide +kernel
theorem dX12_side_215 : decode cX12_side 215 = .ok (.iconst 0, 1) := by decide +kernel
theorem dX12_side_216 : decode cX12_side 216 = .ok (.goto 4, 3) := by decide +kernel
theorem dX12_side_219 : decode cX12_side 219 = .ok (.iconst 1, 1) := by decide +kernel
theorem dX12_side_220 : decode cX12_side 220 = .ok (.isub, 1) := by decide +kernel
theorem dX12_side_221 : decode cX12_side 221 = .ok (.istore_n 3, 1) := by decide +kernel
theorem dX12_side_222 : decode cX12_side 222 = .ok (.goto (-73), 3) := by decide +kernel
theorem dX12_side_225 : decode cX12_side 225 = .ok (.iload 5, 2) := by decide +kernel
theorem dX12_side_227 : decode cX12_side 227 = .ok (.ifCond .ne 5, 3) := by decide +kernel
theorem dX12_side_230 : decode cX12_side 230 = .ok (.iconst 1, 1) := by decide +kernel
theorem dX12_side_231 : decode cX12_side 231 = .ok (.ireturn, 1) := by decide +kernel
theorem dX12_side_232 : decode cX12_side 232 = .ok (.goto (-220), 3) := by decide +kernel
theorem dX12_rules_0 : decode cX12_rules 0 = .ok (.aload_n 0, 1) := by decide +kernel
theorem dX12_rules_1 : decode cX12_rules 1 = .ok (.getfield 7, 3) := by decide +kernel
theorem dX12_rules_4 : decode cX12_rules 4 = .ok (.iconst 1, 1) := by decide +kernel
theorem dX12_rules_5 : decode cX12_rules 5 = .ok (.iaload, 1) := by decide +kernel
theorem dX12_rules_6 : decode cX12_rules 6 = .ok (.istore_n 1, 1) := by decide +kernel
theorem dX12_rules_7 : decode cX12_rules 7 = .ok (.aload_n 0, 1) := by decide +kernel
theorem dX12_rules_8 : decode cX12_rules 8 = .ok (.getfield 7, 3) := by decide +kernel
theorem dX12_rules_11 : decode cX12_rules 11 = .ok (.sipush 252, 3) := by decide +kernel
theorem dX12_rules_14 : decode cX12_rules 14 = .ok (.iload_n 1, 1) := by decide +kernel
theorem dX12_rules_15 : decode cX12_rules 15 = .ok (.iadd, 1) := by decide +kernel
theorem dX12_rules_16 : decode cX12_rules 16 = .ok (.aload_n 0, 1) := by decide +kernel
theorem dX12_rules_17 : decode cX12_rules 17 = .ok (.getfield 216, 3) := by decide +kernel
theorem dX12_rules_20 : decode cX12_rules 20 = .ok (.iastore, 1) := by decide +kernel
theorem dX12_rules_21 : decode cX12_rules 21 = .ok (.aload_n 0, 1) := by decide +kernel
theorem dX12_rules_22 : decode cX12_rules 22 = .ok (.getfield 7, 3) := by decide +kernel
theorem dX12_rules_25 : decode cX12_rules 25 = .ok (.sipush 258, 3) := by decide +kernel
theorem dX12_rules_28 : decode cX12_rules 28 = .ok (.iload_n 1, 1) := by decide +kernel
theorem dX12_rules_29 : decode cX12_rules 29 = .ok (.iadd, 1) := by decide +kernel
theorem dX12_rules_30 : decode cX12_rules 30 = .ok (.aload_n 0, 1) := by decide +kernel
theorem dX12_rules_31 : decode cX12_rules 31 = .ok (.getfield 219, 3) := by decide +kernel
theorem dX12_rules_34 : decode cX12_rules 34 = .ok (.iastore, 1) := by decide +kernel
