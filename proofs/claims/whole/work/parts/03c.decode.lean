theorem dX9_termSentence_90 : decode cX9_termSentence 90 = .ok (.ifCond .eq 10, 3) := by decide +kernel
theorem dX9_termSentence_93 : decode cX9_termSentence 93 = .ok (.aload_n 1, 1) := by decide +kernel
theorem dX9_termSentence_94 : decode cX9_termSentence 94 = .ok (.getfield 114, 3) := by decide +kernel
theorem dX9_termSentence_97 : decode cX9_termSentence 97 = .ok (.iload_n 3, 1) := by decide +kernel
theorem dX9_termSentence_98 : decode cX9_termSentence 98 = .ok (.iconst 0, 1) := by decide +kernel
theorem dX9_termSentence_99 : decode cX9_termSentence 99 = .ok (.iastore, 1) := by decide +kernel
theorem dX9_termSentence_100 : decode cX9_termSentence 100 = .ok (.iinc 2 1, 3) := by decide +kernel
theorem dX9_termSentence_103 : decode cX9_termSentence 103 = .ok (.goto (-38), 3) := by decide +kernel
theorem dX9_termSentence_106 : decode cX9_termSentence 106 = .ok (.aload_n 1, 1) := by decide +kernel
theorem dX9_termSentence_107 : decode cX9_termSentence 107 = .ok (.aload_n 0, 1) := by decide +kernel
theorem dX9_termSentence_108 : decode cX9_termSentence 108 = .ok (.getfield 44, 3) := by decide +kernel
theorem dX9_termSentence_111 : decode cX9_termSentence 111 = .ok (.aload_n 0, 1) := by decide +kernel
theorem dX9_termSentence_112 : decode cX9_termSentence 112 = .ok (.getfield 24, 3) := by decide +kernel
theorem dX9_termSentence_115 : decode cX9_termSentence 115 = .ok (.getfield 66, 3) := by decide +kernel
theorem dX9_termSentence_118 : decode cX9_termSentence 118 = .ok (.iconst 1, 1) := by decide +kernel
theorem dX9_termSentence_119 : decode cX9_termSentence 119 = .ok (.isub, 1) := by decide +kernel
theorem dX9_termSentence_120 : decode cX9_termSentence 120 = .ok (.invokevirtual 105, 3) := by decide +kernel
theorem dX9_termSentence_123 : decode cX9_termSentence 123 = .ok (.aload_n 0, 1) := by decide +kernel
theorem dX9_termSentence_124 : decode cX9_termSentence 124 = .ok (.getfield 44, 3) := by decide +kernel
theorem dX9_termSentence_127 : decode cX9_termSentence 127 = .ok (.aload_n 0, 1) := by decide +kernel
theorem dX9_termSentence_128 : decode cX9_termSentence 128 = .ok (.getfield 24, 3) := by decide +kernel
theorem dX9_termSentence_131 : decode cX9_termSentence 131 = .ok (.getfield 63, 3) := by decide +kernel
theorem dX9_termSentence_134 : decode cX9_termSentence 134 = .ok (.iconst 1, 1) := by decide +kernel
theorem dX9_termSentence_135 : decode cX9_termSentence 135 = .ok (.isub, 1) := by decide +kernel
theorem dX9_termSentence_136 : decode cX9_termSentence 136 = .ok (.invokevirtual 105, 3) := by decide +kernel
theorem dX9_termSentence_139 : decode cX9_termSentence 139 = .ok (.invokevirtual 117, 3) := by decide +kernel
theorem dX9_termSentence_142 : decode cX9_termSentence 142 = .ok (.pop, 1) := by decide +kernel
theorem dX9_termSentence_143 : decode cX9_termSentence 143 = .ok (.aload_n 0, 1) := by decide +kernel
theorem dX9_termSentence_144 : decode cX9_termSentence 144 = .ok (.bipush 59, 2) := by decide +kernel
theorem dX9_termSentence_146 : decode cX9_termSentence 146 = .ok (.invokevirtual 76, 3) := by decide +kernel
theorem dX9_termSentence_149 : decode cX9_termSentence 149 = .ok (.ireturn, 1) := by decide +kernel
theorem dX9_readSide_0 : decode cX9_readSide 0 = .ok (.aload_n 0, 1) := by decide +kernel
theorem dX9_readSide_1 : decode cX9_readSide 1 = .ok (.iconst 0, 1) := by decide +kernel
theorem dX9_readSide_2 : decode cX9_readSide 2 = .ok (.putfield 34, 3) := by decide +kernel
theorem dX9_readSide_5 : decode cX9_readSide 5 = .ok (.iconst 0, 1) := by decide +kernel
theorem dX9_readSide_6 : decode cX9_readSide 6 = .ok (.istore_n 2, 1) := by decide +kernel
theorem dX9_readSide_7 : decode cX9_readSide 7 = .ok (.iload_n 2, 1) := by decide +kernel
theorem dX9_readSide_8 : decode cX9_readSide 8 = .ok (.bipush 120, 2) := by decide +kernel
theorem dX9_readSide_10 : decode cX9_readSide 10 = .ok (.if_icmp .gt 109, 3) := by decide +kernel
theorem dX9_readSide_13 : decode cX9_readSide 13 = .ok (.aload_n 0, 1) := by decide +kernel
theorem dX9_readSide_14 : decode cX9_readSide 14 = .ok (.invokevirtual 48, 3) := by decide +kernel
theorem dX9_readSide_17 : decode cX9_readSide 17 = .ok (.invokestatic 121, 3) := by decide +kernel
theorem dX9_readSide_20 : decode cX9_readSide 20 = .ok (.istore_n 3, 1) := by decide +kernel
theorem dX9_readSide_21 : decode cX9_readSide 21 = .ok (.iload_n 3, 1) := by decide +kernel
theorem dX9_readSide_22 : decode cX9_readSide 22 = .ok (.iconst (-1), 1) := by decide +kernel
theorem dX9_readSide_23 : decode cX9_readSide 23 = .ok (.if_icmp .eq 20, 3) := by decide +kernel
theorem dX9_readSide_26 : decode cX9_readSide 26 = .ok (.iload_n 3, 1) := by decide +kernel
theorem dX9_readSide_27 : decode cX9_readSide 27 = .ok (.bipush 7, 2) := by decide +kernel
theorem dX9_readSide_29 : decode cX9_readSide 29 = .ok (.if_icmp .lt 16, 3) := by decide +kernel
theorem dX9_readSide_32 : decode cX9_readSide 32 = .ok (.iload_n 1, 1) := by decide +kernel
theorem dX9_readSide_33 : decode cX9_readSide 33 = .ok (.iload_n 3, 1) := by decide +kernel
theorem dX9_readSide_34 : decode cX9_readSide 34 = .ok (.bipush 7, 2) := by decide +kernel
theorem dX9_readSide_36 : decode cX9_readSide 36 = .ok (.isub, 1) := by decide +kernel
theorem dX9_readSide_37 : decode cX9_readSide 37 = .ok (.ishr, 1) := by decide +kernel
theorem dX9_readSide_38 : decode cX9_readSide 38 = .ok (.iconst 1, 1) := by decide +kernel
theorem dX9_readSide_39 : decode cX9_readSide 39 = .ok (.iand, 1) := by decide +kernel
theorem dX9_readSide_40 : decode cX9_readSide 40 = .ok (.ifCond .ne 5, 3) := by decide +kernel
theorem dX9_readSide_43 : decode cX9_readSide 43 = .ok (.iconst 0, 1) := by decide +kernel
theorem dX9_readSide_44 : decode cX9_readSide 44 = .ok (.ireturn, 1) := by decide +kernel
theorem dX9_readSide_45 : decode cX9_readSide 45 = .ok (.aload_n 0, 1) := by decide +kernel
theorem dX9_readSide_46 : decode cX9_readSide 46 = .ok (.dup, 1) := by decide +kernel
theorem dX9_readSide_47 : decode cX9_readSide 47 = .ok (.getfield 37, 3) := by decide +kernel
theorem dX9_readSide_50 : decode cX9_readSide 50 = .ok (.iconst 1, 1) := by decide +kernel
theorem dX9_readSide_51 : decode cX9_readSide 51 = .ok (.iadd, 1) := by decide +kernel
theorem dX9_readSide_52 : decode cX9_readSide 52 = .ok (.putfield 37, 3) := by decide +kernel
theorem dX9_readSide_55 : decode cX9_readSide 55 = .ok (.iload_n 3, 1) := by decide +kernel
theorem dX9_readSide_56 : decode cX9_readSide 56 = .ok (.iconst 4, 1) := by decide +kernel
theorem dX9_readSide_57 : decode cX9_readSide 57 = .ok (.if_icmp .lt 28, 3) := by decide +kernel
theorem dX9_readSide_60 : decode cX9_readSide 60 = .ok (.iload_n 3, 1) := by decide +kernel
theorem dX9_readSide_61 : decode cX9_readSide 61 = .ok (.bipush 6, 2) := by decide +kernel
theorem dX9_readSide_63 : decode cX9_readSide 63 = .ok (.if_icmp .gt 22, 3) := by decide +kernel
theorem dX9_readSide_66 : decode cX9_readSide 66 = .ok (.aload_n 0, 1) := by decide +kernel
theorem dX9_readSide_67 : decode cX9_readSide 67 = .ok (.bipush 40, 2) := by decide +kernel
theorem dX9_readSide_69 : decode cX9_readSide 69 = .ok (.invokevirtual 76, 3) := by decide +kernel
theorem dX9_readSide_72 : decode cX9_readSide 72 = .ok (.ifCond .eq 11, 3) := by decide +kernel
theorem dX9_readSide_75 : decode cX9_readSide 75 = .ok (.aload_n 0, 1) := by decide +kernel
theorem dX9_readSide_76 : decode cX9_readSide 76 = .ok (.iload_n 3, 1) := by decide +kernel
theorem dX9_readSide_77 : decode cX9_readSide 77 = .ok (.invokevirtual 124, 3) := by decide +kernel
theorem dX9_readSide_80 : decode cX9_readSide 80 = .ok (.ifCond .ne 33, 3) := by decide +kernel
theorem dX9_readSide_83 : decode cX9_readSide 83 = .ok (.iconst 0, 1) := by decide +kernel
theorem dX9_readSide_84 : decode cX9_readSide 84 = .ok (.ireturn, 1) := by decide +kernel
theorem dX9_readSide_85 : decode cX9_readSide 85 = .ok (.aload_n 0, 1) := by decide +kernel
theorem dX9_readSide_86 : decode cX9_readSide 86 = .ok (.aload_n 0, 1) := by decide +kernel
theorem dX9_readSide_87 : decode cX9_readSide 87 = .ok (.getfield 24, 3) := by decide +kernel
theorem dX9_readSide_90 : decode cX9_readSide 90 = .ok (.iload_n 3, 1) := by decide +kernel
theorem dX9_readSide_91 : decode cX9_readSide 91 = .ok (.iconst (-1), 1) := by decide +kernel
theorem dX9_readSide_92 : decode cX9_readSide 92 = .ok (.iconst (-1), 1) := by decide +kernel
theorem dX9_readSide_93 : decode cX9_readSide 93 = .ok (.invokevirtual 127, 3) := by decide +kernel
theorem dX9_readSide_96 : decode cX9_readSide 96 = .ok (.invokevirtual 131, 3) := by decide +kernel
theorem dX9_readSide_99 : decode cX9_readSide 99 = .ok (.ifCond .ne 5, 3) := by decide +kernel
theorem dX9_readSide_102 : decode cX9_readSide 102 = .ok (.iconst 0, 1) := by decide +kernel
theorem dX9_readSide_103 : decode cX9_readSide 103 = .ok (.ireturn, 1) := by decide +kernel
theorem dX9_readSide_104 : decode cX9_readSide 104 = .ok (.aload_n 0, 1) := by decide +kernel
theorem dX9_readSide_105 : decode cX9_readSide 105 = .ok (.getfield 34, 3) := by decide +kernel
theorem dX9_readSide_108 : decode cX9_readSide 108 = .ok (.ifCond .ne 5, 3) := by decide +kernel
theorem dX9_readSide_111 : decode cX9_readSide 111 = .ok (.iconst 1, 1) := by decide +kernel
theorem dX9_readSide_112 : decode cX9_readSide 112 = .ok (.ireturn, 1) := by decide +kernel
theorem dX9_readSide_113 : decode cX9_readSide 113 = .ok (.iinc 2 1, 3) := by decide +kernel
theorem dX9_readSide_116 : decode cX9_readSide 116 = .ok (.goto (-109), 3) := by decide +kernel
theorem dX9_readSide_119 : decode cX9_readSide 119 = .ok (.iconst 0, 1) := by decide +kernel
theorem dX9_readSide_120 : decode cX9_readSide 120 = .ok (.ireturn, 1) := by decide +kernel
theorem dX9_open_0 : decode cX9_open 0 = .ok (.aload_n 0, 1) := by decide +kernel
theorem dX9_open_1 : decode cX9_open 1 = .ok (.getfield 34, 3) := by decide +kernel
theorem dX9_open_4 : decode cX9_open 4 = .ok (.bipush 120, 2) := by decide +kernel
theorem dX9_open_6 : decode cX9_open 6 = .ok (.if_icmp .lt 5, 3) := by decide +kernel
theorem dX9_open_9 : decode cX9_open 9 = .ok (.iconst 0, 1) := by decide +kernel
theorem dX9_open_10 : decode cX9_open 10 = .ok (.ireturn, 1) := by decide +kernel
theorem dX9_open_11 : decode cX9_open 11 = .ok (.aload_n 0, 1) := by decide +kernel
theorem dX9_open_12 : decode cX9_open 12 = .ok (.getfield 28, 3) := by decide +kernel
theorem dX9_open_15 : decode cX9_open 15 = .ok (.aload_n 0, 1) := by decide +kernel
theorem dX9_open_16 : decode cX9_open 16 = .ok (.getfield 34, 3) := by decide +kernel
theorem dX9_open_19 : decode cX9_open 19 = .ok (.iload_n 1, 1) := by decide +kernel
theorem dX9_open_20 : decode cX9_open 20 = .ok (.iastore, 1) := by decide +kernel
theorem dX9_open_21 : decode cX9_open 21 = .ok (.aload_n 0, 1) := by decide +kernel
theorem dX9_open_22 : decode cX9_open 22 = .ok (.getfield 31, 3) := by decide +kernel
theorem dX9_open_25 : decode cX9_open 25 = .ok (.aload_n 0, 1) := by decide +kernel
theorem dX9_open_26 : decode cX9_open 26 = .ok (.getfield 34, 3) := by decide +kernel
theorem dX9_open_29 : decode cX9_open 29 = .ok (.iconst (-1), 1) := by decide +kernel
theorem dX9_open_30 : decode cX9_open 30 = .ok (.iastore, 1) := by decide +kernel
theorem dX9_open_31 : decode cX9_open 31 = .ok (.aload_n 0, 1) := by decide +kernel
theorem dX9_open_32 : decode cX9_open 32 = .ok (.dup, 1) := by decide +kernel
theorem dX9_open_33 : decode cX9_open 33 = .ok (.getfield 34, 3) := by decide +kernel
theorem dX9_open_36 : decode cX9_open 36 = .ok (.iconst 1, 1) := by decide +kernel
theorem dX9_open_37 : decode cX9_open 37 = .ok (.iadd, 1) := by decide +kernel
theorem dX9_open_38 : decode cX9_open 38 = .ok (.putfield 34, 3) := by decide +kernel
theorem dX9_open_41 : decode cX9_open 41 = .ok (.iconst 1, 1) := by decide +kernel
theorem dX9_open_42 : decode cX9_open 42 = .ok (.ireturn, 1) := by decide +kernel
theorem dX9_closeBehind_0 : decode cX9_closeBehind 0 = .ok (.iload_n 1, 1) := by decide +kernel
theorem dX9_closeBehind_1 : decode cX9_closeBehind 1 = .ok (.istore_n 2, 1) := by decide +kernel
theorem dX9_closeBehind_2 : decode cX9_closeBehind 2 = .ok (.aload_n 0, 1) := by decide +kernel
theorem dX9_closeBehind_3 : decode cX9_closeBehind 3 = .ok (.getfield 34, 3) := by decide +kernel
theorem dX9_closeBehind_6 : decode cX9_closeBehind 6 = .ok (.ifCond .le 126, 3) := by decide +kernel
theorem dX9_closeBehind_9 : decode cX9_closeBehind 9 = .ok (.aload_n 0, 1) := by decide +kernel
theorem dX9_closeBehind_10 : decode cX9_closeBehind 10 = .ok (.getfield 34, 3) := by decide +kernel
theorem dX9_closeBehind_13 : decode cX9_closeBehind 13 = .ok (.iconst 1, 1) := by decide +kernel
theorem dX9_closeBehind_14 : decode cX9_closeBehind 14 = .ok (.isub, 1) := by decide +kernel
theorem dX9_closeBehind_15 : decode cX9_closeBehind 15 = .ok (.istore_n 3, 1) := by decide +kernel
theorem dX9_closeBehind_16 : decode cX9_closeBehind 16 = .ok (.aload_n 0, 1) := by decide +kernel
theorem dX9_closeBehind_17 : decode cX9_closeBehind 17 = .ok (.getfield 28, 3) := by decide +kernel
theorem dX9_closeBehind_20 : decode cX9_closeBehind 20 = .ok (.iload_n 3, 1) := by decide +kernel
theorem dX9_closeBehind_21 : decode cX9_closeBehind 21 = .ok (.iaload, 1) := by decide +kernel
theorem dX9_closeBehind_22 : decode cX9_closeBehind 22 = .ok (.bipush 6, 2) := by decide +kernel
theorem dX9_closeBehind_24 : decode cX9_closeBehind 24 = .ok (.if_icmp .ne 27, 3) := by decide +kernel
theorem dX9_closeBehind_27 : decode cX9_closeBehind 27 = .ok (.aload_n 0, 1) := by decide +kernel
theorem dX9_closeBehind_28 : decode cX9_closeBehind 28 = .ok (.getfield 31, 3) := by decide +kernel
theorem dX9_closeBehind_31 : decode cX9_closeBehind 31 = .ok (.iload_n 3, 1) := by decide +kernel
theorem dX9_closeBehind_32 : decode cX9_closeBehind 32 = .ok (.iaload, 1) := by decide +kernel
theorem dX9_closeBehind_33 : decode cX9_closeBehind 33 = .ok (.iconst (-1), 1) := by decide +kernel
theorem dX9_closeBehind_34 : decode cX9_closeBehind 34 = .ok (.if_icmp .ne 17, 3) := by decide +kernel
theorem dX9_closeBehind_37 : decode cX9_closeBehind 37 = .ok (.aload_n 0, 1) := by decide +kernel
theorem dX9_closeBehind_38 : decode cX9_closeBehind 38 = .ok (.getfield 31, 3) := by decide +kernel
theorem dX9_closeBehind_41 : decode cX9_closeBehind 41 = .ok (.iload_n 3, 1) := by decide +kernel
theorem dX9_closeBehind_42 : decode cX9_closeBehind 42 = .ok (.iload_n 2, 1) := by decide +kernel
theorem dX9_closeBehind_43 : decode cX9_closeBehind 43 = .ok (.iastore, 1) := by decide +kernel
theorem dX9_closeBehind_44 : decode cX9_closeBehind 44 = .ok (.aload_n 0, 1) := by decide +kernel
theorem dX9_closeBehind_45 : decode cX9_closeBehind 45 = .ok (.bipush 44, 2) := by decide +kernel
theorem dX9_closeBehind_47 : decode cX9_closeBehind 47 = .ok (.invokevirtual 76, 3) := by decide +kernel
theorem dX9_closeBehind_50 : decode cX9_closeBehind 50 = .ok (.ireturn, 1) := by decide +kernel
theorem dX9_closeBehind_51 : decode cX9_closeBehind 51 = .ok (.aload_n 0, 1) := by decide +kernel
theorem dX9_closeBehind_52 : decode cX9_closeBehind 52 = .ok (.bipush 41, 2) := by decide +kernel
theorem dX9_closeBehind_54 : decode cX9_closeBehind 54 = .ok (.invokevirtual 76, 3) := by decide +kernel
theorem dX9_closeBehind_57 : decode cX9_closeBehind 57 = .ok (.ifCond .ne 5, 3) := by decide +kernel
theorem dX9_closeBehind_60 : decode cX9_closeBehind 60 = .ok (.iconst 0, 1) := by decide +kernel
theorem dX9_closeBehind_61 : decode cX9_closeBehind 61 = .ok (.ireturn, 1) := by decide +kernel
theorem dX9_closeBehind_62 : decode cX9_closeBehind 62 = .ok (.aload_n 0, 1) := by decide +kernel
theorem dX9_closeBehind_63 : decode cX9_closeBehind 63 = .ok (.getfield 28, 3) := by decide +kernel
theorem dX9_closeBehind_66 : decode cX9_closeBehind 66 = .ok (.iload_n 3, 1) := by decide +kernel
theorem dX9_closeBehind_67 : decode cX9_closeBehind 67 = .ok (.iaload, 1) := by decide +kernel
theorem dX9_closeBehind_68 : decode cX9_closeBehind 68 = .ok (.bipush 6, 2) := by decide +kernel
theorem dX9_closeBehind_70 : decode cX9_closeBehind 70 = .ok (.if_icmp .ne 7, 3) := by decide +kernel
theorem dX9_closeBehind_73 : decode cX9_closeBehind 73 = .ok (.iconst 1, 1) := by decide +kernel
theorem dX9_closeBehind_74 : decode cX9_closeBehind 74 = .ok (.goto 4, 3) := by decide +kernel
theorem dX9_closeBehind_77 : decode cX9_closeBehind 77 = .ok (.iconst 0, 1) := by decide +kernel
theorem dX9_closeBehind_78 : decode cX9_closeBehind 78 = .ok (.istore 4, 2) := by decide +kernel
theorem dX9_closeBehind_80 : decode cX9_closeBehind 80 = .ok (.aload_n 0, 1) := by decide +kernel
theorem dX9_closeBehind_81 : decode cX9_closeBehind 81 = .ok (.getfield 24, 3) := by decide +kernel
theorem dX9_closeBehind_84 : decode cX9_closeBehind 84 = .ok (.aload_n 0, 1) := by decide +kernel
theorem dX9_closeBehind_85 : decode cX9_closeBehind 85 = .ok (.getfield 28, 3) := by decide +kernel
theorem dX9_closeBehind_88 : decode cX9_closeBehind 88 = .ok (.iload_n 3, 1) := by decide +kernel
theorem dX9_closeBehind_89 : decode cX9_closeBehind 89 = .ok (.iaload, 1) := by decide +kernel
theorem dX9_closeBehind_90 : decode cX9_closeBehind 90 = .ok (.iload 4, 2) := by decide +kernel
theorem dX9_closeBehind_92 : decode cX9_closeBehind 92 = .ok (.ifCond .eq 12, 3) := by decide +kernel
theorem dX9_closeBehind_95 : decode cX9_closeBehind 95 = .ok (.aload_n 0, 1) := by decide +kernel
theorem dX9_closeBehind_96 : decode cX9_closeBehind 96 = .ok (.getfield 31, 3) := by decide +kernel
theorem dX9_closeBehind_99 : decode cX9_closeBehind 99 = .ok (.iload_n 3, 1) := by decide +kernel
theorem dX9_closeBehind_100 : decode cX9_closeBehind 100 = .ok (.iaload, 1) := by decide +kernel
theorem dX9_closeBehind_101 : decode cX9_closeBehind 101 = .ok (.goto 4, 3) := by decide +kernel
theorem dX9_closeBehind_104 : decode cX9_closeBehind 104 = .ok (.iload_n 2, 1) := by decide +kernel
theorem dX9_closeBehind_105 : decode cX9_closeBehind 105 = .ok (.iload 4, 2) := by decide +kernel
theorem dX9_closeBehind_107 : decode cX9_closeBehind 107 = .ok (.ifCond .eq 7, 3) := by decide +kernel
theorem dX9_closeBehind_110 : decode cX9_closeBehind 110 = .ok (.iload_n 2, 1) := by decide +kernel
theorem dX9_closeBehind_111 : decode cX9_closeBehind 111 = .ok (.goto 4, 3) := by decide +kernel
theorem dX9_closeBehind_114 : decode cX9_closeBehind 114 = .ok (.iconst (-1), 1) := by decide +kernel
theorem dX9_closeBehind_115 : decode cX9_closeBehind 115 = .ok (.invokevirtual 127, 3) := by decide +kernel
theorem dX9_closeBehind_118 : decode cX9_closeBehind 118 = .ok (.istore_n 2, 1) := by decide +kernel
theorem dX9_closeBehind_119 : decode cX9_closeBehind 119 = .ok (.aload_n 0, 1) := by decide +kernel
theorem dX9_closeBehind_120 : decode cX9_closeBehind 120 = .ok (.dup, 1) := by decide +kernel
theorem dX9_closeBehind_121 : decode cX9_closeBehind 121 = .ok (.getfield 34, 3) := by decide +kernel
theorem dX9_closeBehind_124 : decode cX9_closeBehind 124 = .ok (.iconst 1, 1) := by decide +kernel
theorem dX9_closeBehind_125 : decode cX9_closeBehind 125 = .ok (.isub, 1) := by decide +kernel
theorem dX9_closeBehind_126 : decode cX9_closeBehind 126 = .ok (.putfield 34, 3) := by decide +kernel
theorem dX9_closeBehind_129 : decode cX9_closeBehind 129 = .ok (.goto (-127), 3) := by decide +kernel
theorem dX9_closeBehind_132 : decode cX9_closeBehind 132 = .ok (.iconst 1, 1) := by decide +kernel
theorem dX9_closeBehind_133 : decode cX9_closeBehind 133 = .ok (.ireturn, 1) := by decide +kernel
theorem dX9_signOf_0 : decode cX9_signOf 0 = .ok (.iload_n 0, 1) := by decide +kernel
theorem dX9_signOf_1 : decode cX9_signOf 1 = .ok (.bipush 120, 2) := by decide +kernel
theorem dX9_signOf_3 : decode cX9_signOf 3 = .ok (.if_icmp .lt 17, 3) := by decide +kernel
theorem dX9_signOf_6 : decode cX9_signOf 6 = .ok (.iload_n 0, 1) := by decide +kernel
theorem dX9_signOf_7 : decode cX9_signOf 7 = .ok (.bipush 122, 2) := by decide +kernel
theorem dX9_signOf_9 : decode cX9_signOf 9 = .ok (.if_icmp .gt 11, 3) := by decide +kernel
theorem dX9_signOf_12 : decode cX9_signOf 12 = .ok (.bipush 7, 2) := by decide +kernel
theorem dX9_signOf_14 : decode cX9_signOf 14 = .ok (.iload_n 0, 1) := by decide +kernel
theorem dX9_signOf_15 : decode cX9_signOf 15 = .ok (.iadd, 1) := by decide +kernel
theorem dX9_signOf_16 : decode cX9_signOf 16 = .ok (.bipush 120, 2) := by decide +kernel
theorem dX9_signOf_18 : decode cX9_signOf 18 = .ok (.isub, 1) := by decide +kernel
theorem dX9_signOf_19 : decode cX9_signOf 19 = .ok (.ireturn, 1) := by decide +kernel
theorem dX9_signOf_20 : decode cX9_signOf 20 = .ok (.iconst 0, 1) := by decide +kernel
theorem dX9_signOf_21 : decode cX9_signOf 21 = .ok (.istore_n 1, 1) := by decide +kernel
theorem dX9_signOf_22 : decode cX9_signOf 22 = .ok (.iload_n 1, 1) := by decide +kernel
theorem dX9_signOf_23 : decode cX9_signOf 23 = .ok (.bipush 7, 2) := by decide +kernel
theorem dX9_signOf_25 : decode cX9_signOf 25 = .ok (.if_icmp .ge 21, 3) := by decide +kernel
theorem dX9_signOf_28 : decode cX9_signOf 28 = .ok (.ldc 134, 2) := by decide +kernel
theorem dX9_signOf_30 : decode cX9_signOf 30 = .ok (.iload_n 1, 1) := by decide +kernel
theorem dX9_signOf_31 : decode cX9_signOf 31 = .ok (.invokevirtual 136, 3) := by decide +kernel
theorem dX9_signOf_34 : decode cX9_signOf 34 = .ok (.iload_n 0, 1) := by decide +kernel
theorem dX9_signOf_35 : decode cX9_signOf 35 = .ok (.if_icmp .ne 5, 3) := by decide +kernel
theorem dX9_signOf_38 : decode cX9_signOf 38 = .ok (.iload_n 1, 1) := by decide +kernel
theorem dX9_signOf_39 : decode cX9_signOf 39 = .ok (.ireturn, 1) := by decide +kernel
theorem dX9_signOf_40 : decode cX9_signOf 40 = .ok (.iinc 1 1, 3) := by decide +kernel
theorem dX9_signOf_43 : decode cX9_signOf 43 = .ok (.goto (-21), 3) := by decide +kernel
theorem dX9_signOf_46 : decode cX9_signOf 46 = .ok (.iconst (-1), 1) := by decide +kernel
theorem dX9_signOf_47 : decode cX9_signOf 47 = .ok (.ireturn, 1) := by decide +kernel
theorem dX10_init_0 : decode cX10_init 0 = .ok (.aload_n 0, 1) := by decide +kernel
theorem dX10_init_1 : decode cX10_init 1 = .ok (.invokespecial 3, 3) := by decide +kernel
theorem dX10_init_4 : decode cX10_init 4 = .ok (.aload_n 0, 1) := by decide +kernel
theorem dX10_init_5 : decode cX10_init 5 = .ok (.sipush 300, 3) := by decide +kernel
theorem dX10_init_8 : decode cX10_init 8 = .ok (.newarray .int, 2) := by decide +kernel
theorem dX10_init_10 : decode cX10_init 10 = .ok (.putfield 9, 3) := by decide +kernel
theorem dX10_init_13 : decode cX10_init 13 = .ok (.aload_n 0, 1) := by decide +kernel
theorem dX10_init_14 : decode cX10_init 14 = .ok (.sipush 255, 3) := by decide +kernel
theorem dX10_init_17 : decode cX10_init 17 = .ok (.newarray .int, 2) := by decide +kernel
theorem dX10_init_19 : decode cX10_init 19 = .ok (.putfield 15, 3) := by decide +kernel
theorem dX10_init_22 : decode cX10_init 22 = .ok (.aload_n 0, 1) := by decide +kernel
theorem dX10_init_23 : decode cX10_init 23 = .ok (.iconst 0, 1) := by decide +kernel
theorem dX10_init_24 : decode cX10_init 24 = .ok (.putfield 18, 3) := by decide +kernel
theorem dX10_init_27 : decode cX10_init 27 = .ok (.aload_n 0, 1) := by decide +kernel
theorem dX10_init_28 : decode cX10_init 28 = .ok (.iconst 0, 1) := by decide +kernel
theorem dX10_init_29 : decode cX10_init 29 = .ok (.putfield 22, 3) := by decide +kernel
theorem dX10_init_32 : decode cX10_init 32 = .ok (.return_, 1) := by decide +kernel
theorem dX10_write_0 : decode cX10_write 0 = .ok (.aload_n 0, 1) := by decide +kernel
theorem dX10_write_1 : decode cX10_write 1 = .ok (.iconst 0, 1) := by decide +kernel
theorem dX10_write_2 : decode cX10_write 2 = .ok (.putfield 18, 3) := by decide +kernel
theorem dX10_write_5 : decode cX10_write 5 = .ok (.aload_n 0, 1) := by decide +kernel
theorem dX10_write_6 : decode cX10_write 6 = .ok (.iconst 0, 1) := by decide +kernel
theorem dX10_write_7 : decode cX10_write 7 = .ok (.putfield 22, 3) := by decide +kernel
theorem dX10_write_10 : decode cX10_write 10 = .ok (.aload_n 0, 1) := by decide +kernel
theorem dX10_write_11 : decode cX10_write 11 = .ok (.iload_n 2, 1) := by decide +kernel
theorem dX10_write_12 : decode cX10_write 12 = .ok (.invokevirtual 25, 3) := by decide +kernel
theorem dX10_write_15 : decode cX10_write 15 = .ok (.aload_n 0, 1) := by decide +kernel
theorem dX10_write_16 : decode cX10_write 16 = .ok (.getfield 18, 3) := by decide +kernel
theorem dX10_write_19 : decode cX10_write 19 = .ok (.ifCond .le 75, 3) := by decide +kernel
theorem dX10_write_22 : decode cX10_write 22 = .ok (.aload_n 0, 1) := by decide +kernel
theorem dX10_write_23 : decode cX10_write 23 = .ok (.getfield 22, 3) := by decide +kernel
theorem dX10_write_26 : decode cX10_write 26 = .ok (.sipush 300, 3) := by decide +kernel
theorem dX10_write_29 : decode cX10_write 29 = .ok (.if_icmp .ge 65, 3) := by decide +kernel
theorem dX10_write_32 : decode cX10_write 32 = .ok (.aload_n 0, 1) := by decide +kernel
theorem dX10_write_33 : decode cX10_write 33 = .ok (.dup, 1) := by decide +kernel
theorem dX10_write_34 : decode cX10_write 34 = .ok (.getfield 18, 3) := by decide +kernel
theorem dX10_write_37 : decode cX10_write 37 = .ok (.iconst 1, 1) := by decide +kernel
theorem dX10_write_38 : decode cX10_write 38 = .ok (.isub, 1) := by decide +kernel
theorem dX10_write_39 : decode cX10_write 39 = .ok (.putfield 18, 3) := by decide +kernel
theorem dX10_write_42 : decode cX10_write 42 = .ok (.aload_n 0, 1) := by decide +kernel
theorem dX10_write_43 : decode cX10_write 43 = .ok (.getfield 15, 3) := by decide +kernel
theorem dX10_write_46 : decode cX10_write 46 = .ok (.aload_n 0, 1) := by decide +kernel
theorem dX10_write_47 : decode cX10_write 47 = .ok (.getfield 18, 3) := by decide +kernel
theorem dX10_write_50 : decode cX10_write 50 = .ok (.iaload, 1) := by decide +kernel
theorem dX10_write_51 : decode cX10_write 51 = .ok (.istore_n 3, 1) := by decide +kernel
theorem dX10_write_52 : decode cX10_write 52 = .ok (.aload_n 1, 1) := by decide +kernel
theorem dX10_write_53 : decode cX10_write 53 = .ok (.iload_n 3, 1) := by decide +kernel
theorem dX10_write_54 : decode cX10_write 54 = .ok (.invokevirtual 29, 3) := by decide +kernel
theorem dX10_write_57 : decode cX10_write 57 = .ok (.ifCond .eq 12, 3) := by decide +kernel
theorem dX10_write_60 : decode cX10_write 60 = .ok (.aload_n 0, 1) := by decide +kernel
theorem dX10_write_61 : decode cX10_write 61 = .ok (.aload_n 1, 1) := by decide +kernel
theorem dX10_write_62 : decode cX10_write 62 = .ok (.iload_n 3, 1) := by decide +kernel
theorem dX10_write_63 : decode cX10_write 63 = .ok (.invokevirtual 35, 3) := by decide +kernel
theorem dX10_write_66 : decode cX10_write 66 = .ok (.goto 15, 3) := by decide +kernel
theorem dX10_write_69 : decode cX10_write 69 = .ok (.aload_n 0, 1) := by decide +kernel
theorem dX10_write_70 : decode cX10_write 70 = .ok (.getfield 9, 3) := by decide +kernel
theorem dX10_write_73 : decode cX10_write 73 = .ok (.aload_n 0, 1) := by decide +kernel
theorem dX10_write_74 : decode cX10_write 74 = .ok (.getfield 22, 3) := by decide +kernel
theorem dX10_write_77 : decode cX10_write 77 = .ok (.iconst (-1), 1) := by decide +kernel
theorem dX10_write_78 : decode cX10_write 78 = .ok (.iload_n 3, 1) := by decide +kernel
theorem dX10_write_79 : decode cX10_write 79 = .ok (.isub, 1) := by decide +kernel
theorem dX10_write_80 : decode cX10_write 80 = .ok (.iastore, 1) := by decide +kernel
theorem dX10_write_81 : decode cX10_write 81 = .ok (.aload_n 0, 1) := by decide +kernel
theorem dX10_write_82 : decode cX10_write 82 = .ok (.dup, 1) := by decide +kernel
theorem dX10_write_83 : decode cX10_write 83 = .ok (.getfield 22, 3) := by decide +kernel
theorem dX10_write_86 : decode cX10_write 86 = .ok (.iconst 1, 1) := by decide +kernel
theorem dX10_write_87 : decode cX10_write 87 = .ok (.iadd, 1) := by decide +kernel
theorem dX10_write_88 : decode cX10_write 88 = .ok (.putfield 22, 3) := by decide +kernel
theorem dX10_write_91 : decode cX10_write 91 = .ok (.goto (-76), 3) := by decide +kernel
theorem dX10_write_94 : decode cX10_write 94 = .ok (.aload_n 0, 1) := by decide +kernel
theorem dX10_write_95 : decode cX10_write 95 = .ok (.getfield 22, 3) := by decide +kernel
theorem dX10_write_98 : decode cX10_write 98 = .ok (.ireturn, 1) := by decide +kernel
theorem dX10_writeTerm_0 : decode cX10_writeTerm 0 = .ok (.aload_n 1, 1) := by decide +kernel
theorem dX10_writeTerm_1 : decode cX10_writeTerm 1 = .ok (.getfield 39, 3) := by decide +kernel
theorem dX10_writeTerm_4 : decode cX10_writeTerm 4 = .ok (.iload_n 2, 1) := by decide +kernel
theorem dX10_writeTerm_5 : decode cX10_writeTerm 5 = .ok (.iaload, 1) := by decide +kernel
theorem dX10_writeTerm_6 : decode cX10_writeTerm 6 = .ok (.istore_n 3, 1) := by decide +kernel
theorem dX10_writeTerm_7 : decode cX10_writeTerm 7 = .ok (.aload_n 0, 1) := by decide +kernel
theorem dX10_writeTerm_8 : decode cX10_writeTerm 8 = .ok (.getfield 9, 3) := by decide +kernel
theorem dX10_writeTerm_11 : decode cX10_writeTerm 11 = .ok (.aload_n 0, 1) := by decide +kernel
theorem dX10_writeTerm_12 : decode cX10_writeTerm 12 = .ok (.getfield 22, 3) := by decide +kernel
theorem dX10_writeTerm_15 : decode cX10_writeTerm 15 = .ok (.iload_n 3, 1) := by decide +kernel
theorem dX10_writeTerm_16 : decode cX10_writeTerm 16 = .ok (.ifCond .lt 18, 3) := by decide +kernel
theorem dX10_writeTerm_19 : decode cX10_writeTerm 19 = .ok (.iload_n 3, 1) := by decide +kernel
theorem dX10_writeTerm_20 : decode cX10_writeTerm 20 = .ok (.bipush 7, 2) := by decide +kernel
theorem dX10_writeTerm_22 : decode cX10_writeTerm 22 = .ok (.if_icmp .ge 12, 3) := by decide +kernel
theorem dX10_writeTerm_25 : decode cX10_writeTerm 25 = .ok (.ldc 42, 2) := by decide +kernel
theorem dX10_writeTerm_27 : decode cX10_writeTerm 27 = .ok (.iload_n 3, 1) := by decide +kernel
theorem dX10_writeTerm_28 : decode cX10_writeTerm 28 = .ok (.invokevirtual 44, 3) := by decide +kernel
theorem dX10_writeTerm_31 : decode cX10_writeTerm 31 = .ok (.goto 5, 3) := by decide +kernel
theorem dX10_writeTerm_34 : decode cX10_writeTerm 34 = .ok (.bipush 32, 2) := by decide +kernel
theorem dX10_writeTerm_36 : decode cX10_writeTerm 36 = .ok (.iastore, 1) := by decide +kernel
theorem dX10_writeTerm_37 : decode cX10_writeTerm 37 = .ok (.iload_n 3, 1) := by decide +kernel
theorem dX10_writeTerm_38 : decode cX10_writeTerm 38 = .ok (.iconst 4, 1) := by decide +kernel
theorem dX10_writeTerm_39 : decode cX10_writeTerm 39 = .ok (.if_icmp .ge 4, 3) := by decide +kernel
theorem dX10_writeTerm_42 : decode cX10_writeTerm 42 = .ok (.return_, 1) := by decide +kernel
theorem dX10_writeTerm_43 : decode cX10_writeTerm 43 = .ok (.aload_n 0, 1) := by decide +kernel
theorem dX10_writeTerm_44 : decode cX10_writeTerm 44 = .ok (.bipush (-42), 2) := by decide +kernel
theorem dX10_writeTerm_46 : decode cX10_writeTerm 46 = .ok (.invokevirtual 25, 3) := by decide +kernel
theorem dX10_writeTerm_49 : decode cX10_writeTerm 49 = .ok (.iload_n 3, 1) := by decide +kernel
theorem dX10_writeTerm_50 : decode cX10_writeTerm 50 = .ok (.bipush 6, 2) := by decide +kernel
theorem dX10_writeTerm_52 : decode cX10_writeTerm 52 = .ok (.if_icmp .ne 19, 3) := by decide +kernel
theorem dX10_writeTerm_55 : decode cX10_writeTerm 55 = .ok (.aload_n 0, 1) := by decide +kernel
theorem dX10_writeTerm_56 : decode cX10_writeTerm 56 = .ok (.aload_n 1, 1) := by decide +kernel
theorem dX10_writeTerm_57 : decode cX10_writeTerm 57 = .ok (.getfield 50, 3) := by decide +kernel
theorem dX10_writeTerm_60 : decode cX10_writeTerm 60 = .ok (.iload_n 2, 1) := by decide +kernel
theorem dX10_writeTerm_61 : decode cX10_writeTerm 61 = .ok (.iaload, 1) := by decide +kernel
theorem dX10_writeTerm_62 : decode cX10_writeTerm 62 = .ok (.invokevirtual 25, 3) := by decide +kernel
theorem dX10_writeTerm_65 : decode cX10_writeTerm 65 = .ok (.aload_n 0, 1) := by decide +kernel
theorem dX10_writeTerm_66 : decode cX10_writeTerm 66 = .ok (.bipush (-45), 2) := by decide +kernel
theorem dX10_writeTerm_68 : decode cX10_writeTerm 68 = .ok (.invokevirtual 25, 3) := by decide +kernel
theorem dX10_writeTerm_71 : decode cX10_writeTerm 71 = .ok (.aload_n 0, 1) := by decide +kernel
theorem dX10_writeTerm_72 : decode cX10_writeTerm 72 = .ok (.aload_n 1, 1) := by decide +kernel
theorem dX10_writeTerm_73 : decode cX10_writeTerm 73 = .ok (.getfield 53, 3) := by decide +kernel
theorem dX10_writeTerm_76 : decode cX10_writeTerm 76 = .ok (.iload_n 2, 1) := by decide +kernel
theorem dX10_writeTerm_77 : decode cX10_writeTerm 77 = .ok (.iaload, 1) := by decide +kernel
theorem dX10_writeTerm_78 : decode cX10_writeTerm 78 = .ok (.invokevirtual 25, 3) := by decide +kernel
theorem dX10_writeTerm_81 : decode cX10_writeTerm 81 = .ok (.aload_n 0, 1) := by decide +kernel
theorem dX10_writeTerm_82 : decode cX10_writeTerm 82 = .ok (.bipush (-41), 2) := by decide +kernel
theorem dX10_writeTerm_84 : decode cX10_writeTerm 84 = .ok (.invokevirtual 25, 3) := by decide +kernel
theorem dX10_writeTerm_87 : decode cX10_writeTerm 87 = .ok (.return_, 1) := by decide +kernel
theorem dX10_push_0 : decode cX10_push 0 = .ok (.aload_n 0, 1) := by decide +kernel
theorem dX10_push_1 : decode cX10_push 1 = .ok (.getfield 18, 3) := by decide +kernel
theorem dX10_push_4 : decode cX10_push 4 = .ok (.sipush 255, 3) := by decide +kernel
theorem dX10_push_7 : decode cX10_push 7 = .ok (.if_icmp .ge 23, 3) := by decide +kernel
theorem dX10_push_10 : decode cX10_push 10 = .ok (.aload_n 0, 1) := by decide +kernel
theorem dX10_push_11 : decode cX10_push 11 = .ok (.getfield 15, 3) := by decide +kernel
theorem dX10_push_14 : decode cX10_push 14 = .ok (.aload_n 0, 1) := by decide +kernel
theorem dX10_push_15 : decode cX10_push 15 = .ok (.getfield 18, 3) := by decide +kernel
theorem dX10_push_18 : decode cX10_push 18 = .ok (.iload_n 1, 1) := by decide +kernel
theorem dX10_push_19 : decode cX10_push 19 = .ok (.iastore, 1) := by decide +kernel
theorem dX10_push_20 : decode cX10_push 20 = .ok (.aload_n 0, 1) := by decide +kernel
theorem dX10_push_21 : decode cX10_push 21 = .ok (.dup, 1) := by decide +kernel
theorem dX10_push_22 : decode cX10_push 22 = .ok (.getfield 18, 3) := by decide +kernel
theorem dX10_push_25 : decode cX10_push 25 = .ok (.iconst 1, 1) := by decide +kernel
theorem dX10_push_26 : decode cX10_push 26 = .ok (.iadd, 1) := by decide +kernel
theorem dX10_push_27 : decode cX10_push 27 = .ok (.putfield 18, 3) := by decide +kernel
theorem dX10_push_30 : decode cX10_push 30 = .ok (.return_, 1) := by decide +kernel
theorem dX11_init_0 : decode cX11_init 0 = .ok (.aload_n 0, 1) := by decide +kernel
theorem dX11_init_1 : decode cX11_init 1 = .ok (.invokespecial 1, 3) := by decide +kernel
theorem dX11_init_4 : decode cX11_init 4 = .ok (.aload_n 0, 1) := by decide +kernel
theorem dX11_init_5 : decode cX11_init 5 = .ok (.new 7, 3) := by decide +kernel
theorem dX11_init_8 : decode cX11_init 8 = .ok (.dup, 1) := by decide +kernel
theorem dX11_init_9 : decode cX11_init 9 = .ok (.invokespecial 9, 3) := by decide +kernel
theorem dX11_init_12 : decode cX11_init 12 = .ok (.putfield 10, 3) := by decide +kernel
theorem dX11_init_15 : decode cX11_init 15 = .ok (.aload_n 0, 1) := by decide +kernel
theorem dX11_init_16 : decode cX11_init 16 = .ok (.new 16, 3) := by decide +kernel
theorem dX11_init_19 : decode cX11_init 19 = .ok (.dup, 1) := by decide +kernel
theorem dX11_init_20 : decode cX11_init 20 = .ok (.invokespecial 18, 3) := by decide +kernel
theorem dX11_init_23 : decode cX11_init 23 = .ok (.putfield 19, 3) := by decide +kernel
theorem dX11_init_26 : decode cX11_init 26 = .ok (.aload_n 0, 1) := by decide +kernel
theorem dX11_init_27 : decode cX11_init 27 = .ok (.new 23, 3) := by decide +kernel
theorem dX11_init_30 : decode cX11_init 30 = .ok (.dup, 1) := by decide +kernel
theorem dX11_init_31 : decode cX11_init 31 = .ok (.invokespecial 25, 3) := by decide +kernel
theorem dX11_init_34 : decode cX11_init 34 = .ok (.putfield 26, 3) := by decide +kernel
theorem dX11_init_37 : decode cX11_init 37 = .ok (.aload_n 0, 1) := by decide +kernel
theorem dX11_init_38 : decode cX11_init 38 = .ok (.new 30, 3) := by decide +kernel
theorem dX11_init_41 : decode cX11_init 41 = .ok (.dup, 1) := by decide +kernel
theorem dX11_init_42 : decode cX11_init 42 = .ok (.aload_n 0, 1) := by decide +kernel
theorem dX11_init_43 : decode cX11_init 43 = .ok (.getfield 10, 3) := by decide +kernel
theorem dX11_init_46 : decode cX11_init 46 = .ok (.getfield 32, 3) := by decide +kernel
theorem dX11_init_49 : decode cX11_init 49 = .ok (.invokespecial 36, 3) := by decide +kernel
theorem dX11_init_52 : decode cX11_init 52 = .ok (.putfield 39, 3) := by decide +kernel
theorem dX11_init_55 : decode cX11_init 55 = .ok (.aload_n 0, 1) := by decide +kernel
theorem dX11_init_56 : decode cX11_init 56 = .ok (.new 43, 3) := by decide +kernel
theorem dX11_init_59 : decode cX11_init 59 = .ok (.dup, 1) := by decide +kernel
theorem dX11_init_60 : decode cX11_init 60 = .ok (.aload_n 0, 1) := by decide +kernel
theorem dX11_init_61 : decode cX11_init 61 = .ok (.getfield 10, 3) := by decide +kernel
theorem dX11_init_64 : decode cX11_init 64 = .ok (.aload_n 0, 1) := by decide +kernel
theorem dX11_init_65 : decode cX11_init 65 = .ok (.getfield 26, 3) := by decide +kernel
theorem dX11_init_68 : decode cX11_init 68 = .ok (.invokespecial 45, 3) := by decide +kernel
theorem dX11_init_71 : decode cX11_init 71 = .ok (.putfield 48, 3) := by decide +kernel
theorem dX11_init_74 : decode cX11_init 74 = .ok (.aload_n 0, 1) := by decide +kernel
theorem dX11_init_75 : decode cX11_init 75 = .ok (.new 52, 3) := by decide +kernel
theorem dX11_init_78 : decode cX11_init 78 = .ok (.dup, 1) := by decide +kernel
theorem dX11_init_79 : decode cX11_init 79 = .ok (.aload_n 0, 1) := by decide +kernel
theorem dX11_init_80 : decode cX11_init 80 = .ok (.getfield 10, 3) := by decide +kernel
theorem dX11_init_83 : decode cX11_init 83 = .ok (.aload_n 0, 1) := by decide +kernel
theorem dX11_init_84 : decode cX11_init 84 = .ok (.getfield 26, 3) := by decide +kernel
theorem dX11_init_87 : decode cX11_init 87 = .ok (.aload_n 0, 1) := by decide +kernel
theorem dX11_init_88 : decode cX11_init 88 = .ok (.getfield 48, 3) := by decide +kernel
theorem dX11_init_91 : decode cX11_init 91 = .ok (.aload_n 0, 1) := by decide +kernel
theorem dX11_init_92 : decode cX11_init 92 = .ok (.getfield 39, 3) := by decide +kernel
theorem dX11_init_95 : decode cX11_init 95 = .ok (.invokespecial 54, 3) := by decide +kernel
theorem dX11_init_98 : decode cX11_init 98 = .ok (.putfield 57, 3) := by decide +kernel
theorem dX11_init_101 : decode cX11_init 101 = .ok (.aload_n 0, 1) := by decide +kernel
theorem dX11_init_102 : decode cX11_init 102 = .ok (.new 61, 3) := by decide +kernel
theorem dX11_init_105 : decode cX11_init 105 = .ok (.dup, 1) := by decide +kernel
theorem dX11_init_106 : decode cX11_init 106 = .ok (.aload_n 0, 1) := by decide +kernel
theorem dX11_init_107 : decode cX11_init 107 = .ok (.getfield 10, 3) := by decide +kernel
theorem dX11_init_110 : decode cX11_init 110 = .ok (.aload_n 0, 1) := by decide +kernel
theorem dX11_init_111 : decode cX11_init 111 = .ok (.getfield 39, 3) := by decide +kernel
theorem dX11_init_114 : decode cX11_init 114 = .ok (.invokespecial 63, 3) := by decide +kernel
theorem dX11_init_117 : decode cX11_init 117 = .ok (.putfield 66, 3) := by decide +kernel
theorem dX11_init_120 : decode cX11_init 120 = .ok (.aload_n 0, 1) := by decide +kernel
theorem dX11_init_121 : decode cX11_init 121 = .ok (.new 70, 3) := by decide +kernel
theorem dX11_init_124 : decode cX11_init 124 = .ok (.dup, 1) := by decide +kernel
theorem dX11_init_125 : decode cX11_init 125 = .ok (.invokespecial 72, 3) := by decide +kernel
theorem dX11_init_128 : decode cX11_init 128 = .ok (.putfield 73, 3) := by decide +kernel
theorem dX11_init_131 : decode cX11_init 131 = .ok (.aload_n 0, 1) := by decide +kernel
theorem dX11_init_132 : decode cX11_init 132 = .ok (.iconst 3, 1) := by decide +kernel
theorem dX11_init_133 : decode cX11_init 133 = .ok (.newarray .int, 2) := by decide +kernel
theorem dX11_init_135 : decode cX11_init 135 = .ok (.putfield 77, 3) := by decide +kernel
theorem dX11_init_138 : decode cX11_init 138 = .ok (.aload_n 0, 1) := by decide +kernel
theorem dX11_init_139 : decode cX11_init 139 = .ok (.iconst 0, 1) := by decide +kernel
theorem dX11_init_140 : decode cX11_init 140 = .ok (.putfield 81, 3) := by decide +kernel
theorem dX11_init_143 : decode cX11_init 143 = .ok (.aload_n 0, 1) := by decide +kernel
theorem dX11_init_144 : decode cX11_init 144 = .ok (.iconst 3, 1) := by decide +kernel
theorem dX11_init_145 : decode cX11_init 145 = .ok (.putfield 85, 3) := by decide +kernel
theorem dX11_init_148 : decode cX11_init 148 = .ok (.return_, 1) := by decide +kernel
theorem dX11_term_0 : decode cX11_term 0 = .ok (.iload_n 1, 1) := by decide +kernel
theorem dX11_term_1 : decode cX11_term 1 = .ok (.ifCond .lt 9, 3) := by decide +kernel
theorem dX11_term_4 : decode cX11_term 4 = .ok (.iload_n 1, 1) := by decide +kernel
theorem dX11_term_5 : decode cX11_term 5 = .ok (.bipush 6, 2) := by decide +kernel
theorem dX11_term_7 : decode cX11_term 7 = .ok (.if_icmp .le 10, 3) := by decide +kernel
theorem dX11_term_10 : decode cX11_term 10 = .ok (.aload_n 0, 1) := by decide +kernel
theorem dX11_term_11 : decode cX11_term 11 = .ok (.bipush (-2), 2) := by decide +kernel
theorem dX11_term_13 : decode cX11_term 13 = .ok (.invokevirtual 88, 3) := by decide +kernel
theorem dX11_term_16 : decode cX11_term 16 = .ok (.ireturn, 1) := by decide +kernel
theorem dX11_term_17 : decode cX11_term 17 = .ok (.iload_n 1, 1) := by decide +kernel
theorem dX11_term_18 : decode cX11_term 18 = .ok (.iconst 4, 1) := by decide +kernel
theorem dX11_term_19 : decode cX11_term 19 = .ok (.if_icmp .lt 7, 3) := by decide +kernel
theorem dX11_term_22 : decode cX11_term 22 = .ok (.iconst 1, 1) := by decide +kernel
theorem dX11_term_23 : decode cX11_term 23 = .ok (.goto 4, 3) := by decide +kernel
theorem dX11_term_26 : decode cX11_term 26 = .ok (.iconst 0, 1) := by decide +kernel
theorem dX11_term_27 : decode cX11_term 27 = .ok (.istore 4, 2) := by decide +kernel
theorem dX11_term_29 : decode cX11_term 29 = .ok (.iload_n 1, 1) := by decide +kernel
theorem dX11_term_30 : decode cX11_term 30 = .ok (.bipush 6, 2) := by decide +kernel
theorem dX11_term_32 : decode cX11_term 32 = .ok (.if_icmp .ne 7, 3) := by decide +kernel
theorem dX11_term_35 : decode cX11_term 35 = .ok (.iconst 1, 1) := by decide +kernel
theorem dX11_term_36 : decode cX11_term 36 = .ok (.goto 4, 3) := by decide +kernel
theorem dX11_term_39 : decode cX11_term 39 = .ok (.iconst 0, 1) := by decide +kernel
theorem dX11_term_40 : decode cX11_term 40 = .ok (.istore 5, 2) := by decide +kernel
theorem dX11_term_42 : decode cX11_term 42 = .ok (.iload 4, 2) := by decide +kernel
theorem dX11_term_44 : decode cX11_term 44 = .ok (.ifCond .eq 17, 3) := by decide +kernel
theorem dX11_term_47 : decode cX11_term 47 = .ok (.aload_n 0, 1) := by decide +kernel
theorem dX11_term_48 : decode cX11_term 48 = .ok (.getfield 10, 3) := by decide +kernel
theorem dX11_term_51 : decode cX11_term 51 = .ok (.getfield 32, 3) := by decide +kernel
theorem dX11_term_54 : decode cX11_term 54 = .ok (.iload_n 2, 1) := by decide +kernel
theorem dX11_term_55 : decode cX11_term 55 = .ok (.invokevirtual 92, 3) := by decide +kernel
theorem dX11_term_58 : decode cX11_term 58 = .ok (.ifCond .eq 22, 3) := by decide +kernel
theorem dX11_term_61 : decode cX11_term 61 = .ok (.iload 5, 2) := by decide +kernel
theorem dX11_term_63 : decode cX11_term 63 = .ok (.ifCond .eq 24, 3) := by decide +kernel
theorem dX11_term_66 : decode cX11_term 66 = .ok (.aload_n 0, 1) := by decide +kernel
theorem dX11_term_67 : decode cX11_term 67 = .ok (.getfield 10, 3) := by decide +kernel
theorem dX11_term_70 : decode cX11_term 70 = .ok (.getfield 32, 3) := by decide +kernel
theorem dX11_term_73 : decode cX11_term 73 = .ok (.iload_n 3, 1) := by decide +kernel
theorem dX11_term_74 : decode cX11_term 74 = .ok (.invokevirtual 92, 3) := by decide +kernel
theorem dX11_term_77 : decode cX11_term 77 = .ok (.ifCond .ne 10, 3) := by decide +kernel
theorem dX11_term_80 : decode cX11_term 80 = .ok (.aload_n 0, 1) := by decide +kernel
theorem dX11_term_81 : decode cX11_term 81 = .ok (.bipush (-2), 2) := by decide +kernel
theorem dX11_term_83 : decode cX11_term 83 = .ok (.invokevirtual 88, 3) := by decide +kernel
theorem dX11_term_86 : decode cX11_term 86 = .ok (.ireturn, 1) := by decide +kernel
theorem dX11_term_87 : decode cX11_term 87 = .ok (.iload 4, 2) := by decide +kernel
theorem dX11_term_89 : decode cX11_term 89 = .ok (.ifCond .eq 7, 3) := by decide +kernel
theorem dX11_term_92 : decode cX11_term 92 = .ok (.iload_n 2, 1) := by decide +kernel
theorem dX11_term_93 : decode cX11_term 93 = .ok (.goto 4, 3) := by decide +kernel
theorem dX11_term_96 : decode cX11_term 96 = .ok (.iconst (-1), 1) := by decide +kernel
theorem dX11_term_97 : decode cX11_term 97 = .ok (.istore 6, 2) := by decide +kernel
theorem dX11_term_99 : decode cX11_term 99 = .ok (.iload 5, 2) := by decide +kernel
theorem dX11_term_101 : decode cX11_term 101 = .ok (.ifCond .eq 7, 3) := by decide +kernel
theorem dX11_term_104 : decode cX11_term 104 = .ok (.iload_n 3, 1) := by decide +kernel
theorem dX11_term_105 : decode cX11_term 105 = .ok (.goto 4, 3) := by decide +kernel
theorem dX11_term_108 : decode cX11_term 108 = .ok (.iconst (-1), 1) := by decide +kernel
theorem dX11_term_109 : decode cX11_term 109 = .ok (.istore 7, 2) := by decide +kernel
theorem dX11_term_111 : decode cX11_term 111 = .ok (.aload_n 0, 1) := by decide +kernel
theorem dX11_term_112 : decode cX11_term 112 = .ok (.getfield 10, 3) := by decide +kernel
theorem dX11_term_115 : decode cX11_term 115 = .ok (.getfield 32, 3) := by decide +kernel
theorem dX11_term_118 : decode cX11_term 118 = .ok (.iload_n 1, 1) := by decide +kernel
theorem dX11_term_119 : decode cX11_term 119 = .ok (.iload 6, 2) := by decide +kernel
theorem dX11_term_121 : decode cX11_term 121 = .ok (.iload 7, 2) := by decide +kernel
theorem dX11_term_123 : decode cX11_term 123 = .ok (.invokevirtual 98, 3) := by decide +kernel
theorem dX11_term_126 : decode cX11_term 126 = .ok (.istore 8, 2) := by decide +kernel
theorem dX11_term_128 : decode cX11_term 128 = .ok (.iload 8, 2) := by decide +kernel
theorem dX11_term_130 : decode cX11_term 130 = .ok (.iconst (-1), 1) := by decide +kernel
theorem dX11_term_131 : decode cX11_term 131 = .ok (.if_icmp .ne 25, 3) := by decide +kernel
theorem dX11_term_134 : decode cX11_term 134 = .ok (.aload_n 0, 1) := by decide +kernel
theorem dX11_term_135 : decode cX11_term 135 = .ok (.getfield 10, 3) := by decide +kernel
theorem dX11_term_138 : decode cX11_term 138 = .ok (.getfield 32, 3) := by decide +kernel
theorem dX11_term_141 : decode cX11_term 141 = .ok (.getfield 102, 3) := by decide +kernel
theorem dX11_term_144 : decode cX11_term 144 = .ok (.bipush 50, 2) := by decide +kernel
theorem dX11_term_146 : decode cX11_term 146 = .ok (.if_icmp .lt 10, 3) := by decide +kernel
theorem dX11_term_149 : decode cX11_term 149 = .ok (.aload_n 0, 1) := by decide +kernel
theorem dX11_term_150 : decode cX11_term 150 = .ok (.bipush (-4), 2) := by decide +kernel
theorem dX11_term_152 : decode cX11_term 152 = .ok (.invokevirtual 88, 3) := by decide +kernel
theorem dX11_term_155 : decode cX11_term 155 = .ok (.ireturn, 1) := by decide +kernel
theorem dX11_term_156 : decode cX11_term 156 = .ok (.aload_n 0, 1) := by decide +kernel
theorem dX11_term_157 : decode cX11_term 157 = .ok (.getfield 19, 3) := by decide +kernel
theorem dX11_term_160 : decode cX11_term 160 = .ok (.aload_n 0, 1) := by decide +kernel
theorem dX11_term_161 : decode cX11_term 161 = .ok (.getfield 10, 3) := by decide +kernel
theorem dX11_term_164 : decode cX11_term 164 = .ok (.invokevirtual 105, 3) := by decide +kernel
theorem dX11_term_167 : decode cX11_term 167 = .ok (.iload 8, 2) := by decide +kernel
theorem dX11_term_169 : decode cX11_term 169 = .ok (.iconst (-1), 1) := by decide +kernel
theorem dX11_term_170 : decode cX11_term 170 = .ok (.if_icmp .ne 24, 3) := by decide +kernel
theorem dX11_term_173 : decode cX11_term 173 = .ok (.aload_n 0, 1) := by decide +kernel
theorem dX11_term_174 : decode cX11_term 174 = .ok (.getfield 10, 3) := by decide +kernel
theorem dX11_term_177 : decode cX11_term 177 = .ok (.getfield 32, 3) := by decide +kernel
theorem dX11_term_180 : decode cX11_term 180 = .ok (.iload_n 1, 1) := by decide +kernel
theorem dX11_term_181 : decode cX11_term 181 = .ok (.iload 6, 2) := by decide +kernel
theorem dX11_term_183 : decode cX11_term 183 = .ok (.iload 7, 2) := by decide +kernel
theorem dX11_term_185 : decode cX11_term 185 = .ok (.iconst 0, 1) := by decide +kernel
theorem dX11_term_186 : decode cX11_term 186 = .ok (.invokevirtual 109, 3) := by decide +kernel
theorem dX11_term_189 : decode cX11_term 189 = .ok (.istore 8, 2) := by decide +kernel
theorem dX11_term_191 : decode cX11_term 191 = .ok (.goto 17, 3) := by decide +kernel
theorem dX11_term_194 : decode cX11_term 194 = .ok (.aload_n 0, 1) := by decide +kernel
theorem dX11_term_195 : decode cX11_term 195 = .ok (.getfield 10, 3) := by decide +kernel
theorem dX11_term_198 : decode cX11_term 198 = .ok (.getfield 32, 3) := by decide +kernel
theorem dX11_term_201 : decode cX11_term 201 = .ok (.getfield 113, 3) := by decide +kernel
theorem dX11_term_204 : decode cX11_term 204 = .ok (.iload 8, 2) := by decide +kernel
theorem dX11_term_206 : decode cX11_term 206 = .ok (.iconst 0, 1) := by decide +kernel
theorem dX11_term_207 : decode cX11_term 207 = .ok (.iastore, 1) := by decide +kernel
theorem dX11_term_208 : decode cX11_term 208 = .ok (.aload_n 0, 1) := by decide +kernel
theorem dX11_term_209 : decode cX11_term 209 = .ok (.invokevirtual 116, 3) := by decide +kernel
theorem dX11_term_212 : decode cX11_term 212 = .ok (.iload 8, 2) := by decide +kernel
theorem dX11_term_214 : decode cX11_term 214 = .ok (.ireturn, 1) := by decide +kernel
theorem dX11_alike_0 : decode cX11_alike 0 = .ok (.aload_n 0, 1) := by decide +kernel
theorem dX11_alike_1 : decode cX11_alike 1 = .ok (.getfield 10, 3) := by decide +kernel
theorem dX11_alike_4 : decode cX11_alike 4 = .ok (.getfield 32, 3) := by decide +kernel
theorem dX11_alike_7 : decode cX11_alike 7 = .ok (.iload_n 1, 1) := by decide +kernel
theorem dX11_alike_8 : decode cX11_alike 8 = .ok (.invokevirtual 92, 3) := by decide +kernel
theorem dX11_alike_11 : decode cX11_alike 11 = .ok (.ifCond .eq 17, 3) := by decide +kernel
theorem dX11_alike_14 : decode cX11_alike 14 = .ok (.aload_n 0, 1) := by decide +kernel
theorem dX11_alike_15 : decode cX11_alike 15 = .ok (.getfield 10, 3) := by decide +kernel
theorem dX11_alike_18 : decode cX11_alike 18 = .ok (.getfield 32, 3) := by decide +kernel
theorem dX11_alike_21 : decode cX11_alike 21 = .ok (.iload_n 2, 1) := by decide +kernel
theorem dX11_alike_22 : decode cX11_alike 22 = .ok (.invokevirtual 92, 3) := by decide +kernel
theorem dX11_alike_25 : decode cX11_alike 25 = .ok (.ifCond .ne 10, 3) := by decide +kernel
theorem dX11_alike_28 : decode cX11_alike 28 = .ok (.aload_n 0, 1) := by decide +kernel
theorem dX11_alike_29 : decode cX11_alike 29 = .ok (.bipush (-2), 2) := by decide +kernel
theorem dX11_alike_31 : decode cX11_alike 31 = .ok (.invokevirtual 88, 3) := by decide +kernel
theorem dX11_alike_34 : decode cX11_alike 34 = .ok (.ireturn, 1) := by decide +kernel
theorem dX11_alike_35 : decode cX11_alike 35 = .ok (.aload_n 0, 1) := by decide +kernel
theorem dX11_alike_36 : decode cX11_alike 36 = .ok (.getfield 19, 3) := by decide +kernel
theorem dX11_alike_39 : decode cX11_alike 39 = .ok (.aload_n 0, 1) := by decide +kernel
theorem dX11_alike_40 : decode cX11_alike 40 = .ok (.getfield 10, 3) := by decide +kernel
theorem dX11_alike_43 : decode cX11_alike 43 = .ok (.invokevirtual 105, 3) := by decide +kernel
theorem dX11_alike_46 : decode cX11_alike 46 = .ok (.aload_n 0, 1) := by decide +kernel
theorem dX11_alike_47 : decode cX11_alike 47 = .ok (.invokevirtual 119, 3) := by decide +kernel
theorem dX11_alike_50 : decode cX11_alike 50 = .ok (.istore_n 3, 1) := by decide +kernel
theorem dX11_alike_51 : decode cX11_alike 51 = .ok (.aload_n 0, 1) := by decide +kernel
theorem dX11_alike_52 : decode cX11_alike 52 = .ok (.getfield 10, 3) := by decide +kernel
theorem dX11_alike_55 : decode cX11_alike 55 = .ok (.getfield 32, 3) := by decide +kernel
theorem dX11_alike_58 : decode cX11_alike 58 = .ok (.iload_n 1, 1) := by decide +kernel
theorem dX11_alike_59 : decode cX11_alike 59 = .ok (.iload_n 2, 1) := by decide +kernel
theorem dX11_alike_60 : decode cX11_alike 60 = .ok (.invokevirtual 123, 3) := by decide +kernel
theorem dX11_alike_63 : decode cX11_alike 63 = .ok (.pop, 1) := by decide +kernel
theorem dX11_alike_64 : decode cX11_alike 64 = .ok (.aload_n 0, 1) := by decide +kernel
theorem dX11_alike_65 : decode cX11_alike 65 = .ok (.invokevirtual 116, 3) := by decide +kernel
theorem dX11_alike_68 : decode cX11_alike 68 = .ok (.iload_n 3, 1) := by decide +kernel
theorem dX11_alike_69 : decode cX11_alike 69 = .ok (.aload_n 0, 1) := by decide +kernel
theorem dX11_alike_70 : decode cX11_alike 70 = .ok (.invokevirtual 119, 3) := by decide +kernel
theorem dX11_alike_73 : decode cX11_alike 73 = .ok (.isub, 1) := by decide +kernel
theorem dX11_alike_74 : decode cX11_alike 74 = .ok (.ireturn, 1) := by decide +kernel
theorem dX11_anew_0 : decode cX11_anew 0 = .ok (.aload_n 0, 1) := by decide +kernel
theorem dX11_anew_1 : decode cX11_anew 1 = .ok (.getfield 19, 3) := by decide +kernel
theorem dX11_anew_4 : decode cX11_anew 4 = .ok (.aload_n 0, 1) := by decide +kernel
theorem dX11_anew_5 : decode cX11_anew 5 = .ok (.getfield 10, 3) := by decide +kernel
theorem dX11_anew_8 : decode cX11_anew 8 = .ok (.invokevirtual 105, 3) := by decide +kernel
theorem dX11_anew_11 : decode cX11_anew 11 = .ok (.aload_n 0, 1) := by decide +kernel
theorem dX11_anew_12 : decode cX11_anew 12 = .ok (.getfield 10, 3) := by decide +kernel
theorem dX11_anew_15 : decode cX11_anew 15 = .ok (.getfield 32, 3) := by decide +kernel
theorem dX11_anew_18 : decode cX11_anew 18 = .ok (.getfield 102, 3) := by decide +kernel
theorem dX11_anew_21 : decode cX11_anew 21 = .ok (.istore_n 1, 1) := by decide +kernel
theorem dX11_anew_22 : decode cX11_anew 22 = .ok (.aload_n 0, 1) := by decide +kernel
theorem dX11_anew_23 : decode cX11_anew 23 = .ok (.getfield 10, 3) := by decide +kernel
theorem dX11_anew_26 : decode cX11_anew 26 = .ok (.invokevirtual 127, 3) := by decide +kernel
theorem dX11_anew_29 : decode cX11_anew 29 = .ok (.aload_n 0, 1) := by decide +kernel
theorem dX11_anew_30 : decode cX11_anew 30 = .ok (.invokevirtual 116, 3) := by decide +kernel
theorem dX11_anew_33 : decode cX11_anew 33 = .ok (.iload_n 1, 1) := by decide +kernel
theorem dX11_anew_34 : decode cX11_anew 34 = .ok (.ireturn, 1) := by decide +kernel
theorem dX11_of_0 : decode cX11_of 0 = .ok (.aload_n 0, 1) := by decide +kernel
theorem dX11_of_1 : decode cX11_of 1 = .ok (.getfield 10, 3) := by decide +kernel
theorem dX11_of_4 : decode cX11_of 4 = .ok (.getfield 32, 3) := by decide +kernel
theorem dX11_of_7 : decode cX11_of 7 = .ok (.iload_n 1, 1) := by decide +kernel
theorem dX11_of_8 : decode cX11_of 8 = .ok (.invokevirtual 92, 3) := by decide +kernel
theorem dX11_of_11 : decode cX11_of 11 = .ok (.ifCond .ne 10, 3) := by decide +kernel
theorem dX11_of_14 : decode cX11_of 14 = .ok (.aload_n 0, 1) := by decide +kernel
theorem dX11_of_15 : decode cX11_of 15 = .ok (.bipush (-2), 2) := by decide +kernel
theorem dX11_of_17 : decode cX11_of 17 = .ok (.invokevirtual 88, 3) := by decide +kernel
theorem dX11_of_20 : decode cX11_of 20 = .ok (.ireturn, 1) := by decide +kernel
theorem dX11_of_21 : decode cX11_of 21 = .ok (.iload_n 2, 1) := by decide +kernel
theorem dX11_of_22 : decode cX11_of 22 = .ok (.tableswitch 99 0 4 #[34, 47, 60, 73, 86], 34) := by decide +kernel
theorem dX11_of_56 : decode cX11_of 56 = .ok (.aload_n 0, 1) := by decide +kernel
theorem dX11_of_57 : decode cX11_of 57 = .ok (.getfield 10, 3) := by decide +kernel
theorem dX11_of_60 : decode cX11_of 60 = .ok (.getfield 32, 3) := by decide +kernel
theorem dX11_of_63 : decode cX11_of 63 = .ok (.getfield 130, 3) := by decide +kernel
theorem dX11_of_66 : decode cX11_of 66 = .ok (.iload_n 1, 1) := by decide +kernel
theorem dX11_of_67 : decode cX11_of 67 = .ok (.iaload, 1) := by decide +kernel
theorem dX11_of_68 : decode cX11_of 68 = .ok (.ireturn, 1) := by decide +kernel
theorem dX11_of_69 : decode cX11_of 69 = .ok (.aload_n 0, 1) := by decide +kernel
theorem dX11_of_70 : decode cX11_of 70 = .ok (.getfield 10, 3) := by decide +kernel
theorem dX11_of_73 : decode cX11_of 73 = .ok (.getfield 32, 3) := by decide +kernel
theorem dX11_of_76 : decode cX11_of 76 = .ok (.getfield 133, 3) := by decide +kernel
theorem dX11_of_79 : decode cX11_of 79 = .ok (.iload_n 1, 1) := by decide +kernel
theorem dX11_of_80 : decode cX11_of 80 = .ok (.iaload, 1) := by decide +kernel
theorem dX11_of_81 : decode cX11_of 81 = .ok (.ireturn, 1) := by decide +kernel
theorem dX11_of_82 : decode cX11_of 82 = .ok (.aload_n 0, 1) := by decide +kernel
theorem dX11_of_83 : decode cX11_of 83 = .ok (.getfield 10, 3) := by decide +kernel
theorem dX11_of_86 : decode cX11_of 86 = .ok (.getfield 32, 3) := by decide +kernel
theorem dX11_of_89 : decode cX11_of 89 = .ok (.getfield 136, 3) := by decide +kernel
theorem dX11_of_92 : decode cX11_of 92 = .ok (.iload_n 1, 1) := by decide +kernel
theorem dX11_of_93 : decode cX11_of 93 = .ok (.iaload, 1) := by decide +kernel
theorem dX11_of_94 : decode cX11_of 94 = .ok (.ireturn, 1) := by decide +kernel
theorem dX11_of_95 : decode cX11_of 95 = .ok (.aload_n 0, 1) := by decide +kernel
theorem dX11_of_96 : decode cX11_of 96 = .ok (.getfield 10, 3) := by decide +kernel
theorem dX11_of_99 : decode cX11_of 99 = .ok (.getfield 32, 3) := by decide +kernel
theorem dX11_of_102 : decode cX11_of 102 = .ok (.getfield 113, 3) := by decide +kernel
theorem dX11_of_105 : decode cX11_of 105 = .ok (.iload_n 1, 1) := by decide +kernel
theorem dX11_of_106 : decode cX11_of 106 = .ok (.iaload, 1) := by decide +kernel
theorem dX11_of_107 : decode cX11_of 107 = .ok (.ireturn, 1) := by decide +kernel
theorem dX11_of_108 : decode cX11_of 108 = .ok (.aload_n 0, 1) := by decide +kernel
theorem dX11_of_109 : decode cX11_of 109 = .ok (.getfield 10, 3) := by decide +kernel
theorem dX11_of_112 : decode cX11_of 112 = .ok (.getfield 32, 3) := by decide +kernel
theorem dX11_of_115 : decode cX11_of 115 = .ok (.getfield 139, 3) := by decide +kernel
theorem dX11_of_118 : decode cX11_of 118 = .ok (.iload_n 1, 1) := by decide +kernel
theorem dX11_of_119 : decode cX11_of 119 = .ok (.iaload, 1) := by decide +kernel
theorem dX11_of_120 : decode cX11_of 120 = .ok (.ireturn, 1) := by decide +kernel
theorem dX11_of_121 : decode cX11_of 121 = .ok (.aload_n 0, 1) := by decide +kernel
theorem dX11_of_122 : decode cX11_of 122 = .ok (.bipush (-2), 2) := by decide +kernel
theorem dX11_of_124 : decode cX11_of 124 = .ok (.invokevirtual 88, 3) := by decide +kernel
theorem dX11_of_127 : decode cX11_of 127 = .ok (.ireturn, 1) := by decide +kernel
theorem dX11_same_0 : decode cX11_same 0 = .ok (.aload_n 0, 1) := by decide +kernel
theorem dX11_same_1 : decode cX11_same 1 = .ok (.getfield 10, 3) := by decide +kernel
theorem dX11_same_4 : decode cX11_same 4 = .ok (.getfield 32, 3) := by decide +kernel
theorem dX11_same_7 : decode cX11_same 7 = .ok (.iload_n 1, 1) := by decide +kernel
theorem dX11_same_8 : decode cX11_same 8 = .ok (.invokevirtual 92, 3) := by decide +kernel
theorem dX11_same_11 : decode cX11_same 11 = .ok (.ifCond .eq 17, 3) := by decide +kernel
theorem dX11_same_14 : decode cX11_same 14 = .ok (.aload_n 0, 1) := by decide +kernel
theorem dX11_same_15 : decode cX11_same 15 = .ok (.getfield 10, 3) := by decide +kernel
theorem dX11_same_18 : decode cX11_same 18 = .ok (.getfield 32, 3) := by decide +kernel
theorem dX11_same_21 : decode cX11_same 21 = .ok (.iload_n 2, 1) := by decide +kernel
theorem dX11_same_22 : decode cX11_same 22 = .ok (.invokevirtual 92, 3) := by decide +kernel
theorem dX11_same_25 : decode cX11_same 25 = .ok (.ifCond .ne 10, 3) := by decide +kernel
theorem dX11_same_28 : decode cX11_same 28 = .ok (.aload_n 0, 1) := by decide +kernel
theorem dX11_same_29 : decode cX11_same 29 = .ok (.bipush (-2), 2) := by decide +kernel
theorem dX11_same_31 : decode cX11_same 31 = .ok (.invokevirtual 88, 3) := by decide +kernel
theorem dX11_same_34 : decode cX11_same 34 = .ok (.ireturn, 1) := by decide +kernel
theorem dX11_same_35 : decode cX11_same 35 = .ok (.aload_n 0, 1) := by decide +kernel
theorem dX11_same_36 : decode cX11_same 36 = .ok (.getfield 10, 3) := by decide +kernel
theorem dX11_same_39 : decode cX11_same 39 = .ok (.getfield 32, 3) := by decide +kernel
theorem dX11_same_42 : decode cX11_same 42 = .ok (.getfield 139, 3) := by decide +kernel
theorem dX11_same_45 : decode cX11_same 45 = .ok (.iload_n 1, 1) := by decide +kernel
theorem dX11_same_46 : decode cX11_same 46 = .ok (.iaload, 1) := by decide +kernel
theorem dX11_same_47 : decode cX11_same 47 = .ok (.aload_n 0, 1) := by decide +kernel
theorem dX11_same_48 : decode cX11_same 48 = .ok (.getfield 10, 3) := by decide +kernel
theorem dX11_same_51 : decode cX11_same 51 = .ok (.getfield 32, 3) := by decide +kernel
theorem dX11_same_54 : decode cX11_same 54 = .ok (.getfield 139, 3) := by decide +kernel
theorem dX11_same_57 : decode cX11_same 57 = .ok (.iload_n 2, 1) := by decide +kernel
theorem dX11_same_58 : decode cX11_same 58 = .ok (.iaload, 1) := by decide +kernel
theorem dX11_same_59 : decode cX11_same 59 = .ok (.if_icmp .ne 7, 3) := by decide +kernel
theorem dX11_same_62 : decode cX11_same 62 = .ok (.iconst 1, 1) := by decide +kernel
theorem dX11_same_63 : decode cX11_same 63 = .ok (.goto 4, 3) := by decide +kernel
theorem dX11_same_66 : decode cX11_same 66 = .ok (.iconst 0, 1) := by decide +kernel
theorem dX11_same_67 : decode cX11_same 67 = .ok (.ireturn, 1) := by decide +kernel
theorem dX11_classes_0 : decode cX11_classes 0 = .ok (.aload_n 0, 1) := by decide +kernel
theorem dX11_classes_1 : decode cX11_classes 1 = .ok (.getfield 10, 3) := by decide +kernel
theorem dX11_classes_4 : decode cX11_classes 4 = .ok (.getfield 32, 3) := by decide +kernel
theorem dX11_classes_7 : decode cX11_classes 7 = .ok (.aload_n 0, 1) := by decide +kernel
theorem dX11_classes_8 : decode cX11_classes 8 = .ok (.getfield 10, 3) := by decide +kernel
theorem dX11_classes_11 : decode cX11_classes 11 = .ok (.getfield 32, 3) := by decide +kernel
theorem dX11_classes_14 : decode cX11_classes 14 = .ok (.getfield 102, 3) := by decide +kernel
theorem dX11_classes_17 : decode cX11_classes 17 = .ok (.invokevirtual 142, 3) := by decide +kernel
theorem dX11_classes_20 : decode cX11_classes 20 = .ok (.ireturn, 1) := by decide +kernel
theorem dX11_about_0 : decode cX11_about 0 = .ok (.aload_n 0, 1) := by decide +kernel
theorem dX11_about_1 : decode cX11_about 1 = .ok (.getfield 10, 3) := by decide +kernel
theorem dX11_about_4 : decode cX11_about 4 = .ok (.getfield 32, 3) := by decide +kernel
theorem dX11_about_7 : decode cX11_about 7 = .ok (.iload_n 1, 1) := by decide +kernel
theorem dX11_about_8 : decode cX11_about 8 = .ok (.invokevirtual 92, 3) := by decide +kernel
theorem dX11_about_11 : decode cX11_about 11 = .ok (.ifCond .ne 10, 3) := by decide +kernel
theorem dX11_about_14 : decode cX11_about 14 = .ok (.aload_n 0, 1) := by decide +kernel
theorem dX11_about_15 : decode cX11_about 15 = .ok (.bipush (-2), 2) := by decide +kernel
theorem dX11_about_17 : decode cX11_about 17 = .ok (.invokevirtual 88, 3) := by decide +kernel
theorem dX11_about_20 : decode cX11_about 20 = .ok (.ireturn, 1) := by decide +kernel
theorem dX11_about_21 : decode cX11_about 21 = .ok (.aload_n 0, 1) := by decide +kernel
theorem dX11_about_22 : decode cX11_about 22 = .ok (.getfield 10, 3) := by decide +kernel
theorem dX11_about_25 : decode cX11_about 25 = .ok (.getfield 32, 3) := by decide +kernel
theorem dX11_about_28 : decode cX11_about 28 = .ok (.getfield 139, 3) := by decide +kernel
theorem dX11_about_31 : decode cX11_about 31 = .ok (.iload_n 1, 1) := by decide +kernel
theorem dX11_about_32 : decode cX11_about 32 = .ok (.iaload, 1) := by decide +kernel
theorem dX11_about_33 : decode cX11_about 33 = .ok (.istore_n 3, 1) := by decide +kernel
theorem dX11_about_34 : decode cX11_about 34 = .ok (.iload_n 2, 1) := by decide +kernel
theorem dX11_about_35 : decode cX11_about 35 = .ok (.tableswitch 81 0 3 #[29, 41, 53, 69], 29) := by decide +kernel
theorem dX11_about_64 : decode cX11_about 64 = .ok (.aload_n 0, 1) := by decide +kernel
theorem dX11_about_65 : decode cX11_about 65 = .ok (.getfield 10, 3) := by decide +kernel
theorem dX11_about_68 : decode cX11_about 68 = .ok (.getfield 32, 3) := by decide +kernel
theorem dX11_about_71 : decode cX11_about 71 = .ok (.iload_n 3, 1) := by decide +kernel
theorem dX11_about_72 : decode cX11_about 72 = .ok (.invokevirtual 145, 3) := by decide +kernel
theorem dX11_about_75 : decode cX11_about 75 = .ok (.ireturn, 1) := by decide +kernel
theorem dX11_about_76 : decode cX11_about 76 = .ok (.aload_n 0, 1) := by decide +kernel
theorem dX11_about_77 : decode cX11_about 77 = .ok (.getfield 10, 3) := by decide +kernel
theorem dX11_about_80 : decode cX11_about 80 = .ok (.getfield 32, 3) := by decide +kernel
theorem dX11_about_83 : decode cX11_about 83 = .ok (.iload_n 3, 1) := by decide +kernel
theorem dX11_about_84 : decode cX11_about 84 = .ok (.invokevirtual 148, 3) := by decide +kernel
theorem dX11_about_87 : decode cX11_about 87 = .ok (.ireturn, 1) := by decide +kernel
theorem dX11_about_88 : decode cX11_about 88 = .ok (.aload_n 0, 1) := by decide +kernel
theorem dX11_about_89 : decode cX11_about 89 = .ok (.getfield 26, 3) := by decide +kernel
theorem dX11_about_92 : decode cX11_about 92 = .ok (.aload_n 0, 1) := by decide +kernel
theorem dX11_about_93 : decode cX11_about 93 = .ok (.getfield 10, 3) := by decide +kernel
theorem dX11_about_96 : decode cX11_about 96 = .ok (.getfield 32, 3) := by decide +kernel
theorem dX11_about_99 : decode cX11_about 99 = .ok (.iload_n 3, 1) := by decide +kernel
theorem dX11_about_100 : decode cX11_about 100 = .ok (.invokevirtual 151, 3) := by decide +kernel
theorem dX11_about_103 : decode cX11_about 103 = .ok (.ireturn, 1) := by decide +kernel
theorem dX11_about_104 : decode cX11_about 104 = .ok (.aload_n 0, 1) := by decide +kernel
theorem dX11_about_105 : decode cX11_about 105 = .ok (.getfield 10, 3) := by decide +kernel
theorem dX11_about_108 : decode cX11_about 108 = .ok (.getfield 32, 3) := by decide +kernel
theorem dX11_about_111 : decode cX11_about 111 = .ok (.iload_n 3, 1) := by decide +kernel
theorem dX11_about_112 : decode cX11_about 112 = .ok (.invokevirtual 155, 3) := by decide +kernel
theorem dX11_about_115 : decode cX11_about 115 = .ok (.ireturn, 1) := by decide +kernel
theorem dX11_about_116 : decode cX11_about 116 = .ok (.aload_n 0, 1) := by decide +kernel
theorem dX11_about_117 : decode cX11_about 117 = .ok (.bipush (-2), 2) := by decide +kernel
theorem dX11_about_119 : decode cX11_about 119 = .ok (.invokevirtual 88, 3) := by decide +kernel
theorem dX11_about_122 : decode cX11_about 122 = .ok (.ireturn, 1) := by decide +kernel
theorem dX11_rule_0 : decode cX11_rule 0 = .ok (.aload_n 0, 1) := by decide +kernel
theorem dX11_rule_1 : decode cX11_rule 1 = .ok (.getfield 10, 3) := by decide +kernel
theorem dX11_rule_4 : decode cX11_rule 4 = .ok (.iload_n 1, 1) := by decide +kernel
theorem dX11_rule_5 : decode cX11_rule 5 = .ok (.invokevirtual 158, 3) := by decide +kernel
theorem dX11_rule_8 : decode cX11_rule 8 = .ok (.ifCond .ne 10, 3) := by decide +kernel
theorem dX11_rule_11 : decode cX11_rule 11 = .ok (.aload_n 0, 1) := by decide +kernel
theorem dX11_rule_12 : decode cX11_rule 12 = .ok (.bipush (-2), 2) := by decide +kernel
theorem dX11_rule_14 : decode cX11_rule 14 = .ok (.invokevirtual 88, 3) := by decide +kernel
theorem dX11_rule_17 : decode cX11_rule 17 = .ok (.ireturn, 1) := by decide +kernel
theorem dX11_rule_18 : decode cX11_rule 18 = .ok (.aload_n 0, 1) := by decide +kernel
theorem dX11_rule_19 : decode cX11_rule 19 = .ok (.getfield 10, 3) := by decide +kernel
theorem dX11_rule_22 : decode cX11_rule 22 = .ok (.iload_n 1, 1) := by decide +kernel
theorem dX11_rule_23 : decode cX11_rule 23 = .ok (.invokevirtual 161, 3) := by decide +kernel
theorem dX11_rule_26 : decode cX11_rule 26 = .ok (.astore_n 3, 1) := by decide +kernel
theorem dX11_rule_27 : decode cX11_rule 27 = .ok (.iload_n 2, 1) := by decide +kernel
theorem dX11_rule_28 : decode cX11_rule 28 = .ok (.tableswitch 100 0 4 #[36, 49, 59, 72, 84], 36) := by decide +kernel
theorem dX11_rule_64 : decode cX11_rule 64 = .ok (.aload_n 3, 1) := by decide +kernel
theorem dX11_rule_65 : decode cX11_rule 65 = .ok (.iconst 0, 1) := by decide +kernel
theorem dX11_rule_66 : decode cX11_rule 66 = .ok (.aload_n 3, 1) := by decide +kernel
theorem dX11_rule_67 : decode cX11_rule 67 = .ok (.getfield 165, 3) := by decide +kernel
theorem dX11_rule_70 : decode cX11_rule 70 = .ok (.invokevirtual 170, 3) := by decide +kernel
theorem dX11_rule_73 : decode cX11_rule 73 = .ok (.invokestatic 174, 3) := by decide +kernel
theorem dX11_rule_76 : decode cX11_rule 76 = .ok (.ireturn, 1) := by decide +kernel
theorem dX11_rule_77 : decode cX11_rule 77 = .ok (.aload_n 3, 1) := by decide +kernel
theorem dX11_rule_78 : decode cX11_rule 78 = .ok (.iconst 0, 1) := by decide +kernel
theorem dX11_rule_79 : decode cX11_rule 79 = .ok (.aload_n 3, 1) := by decide +kernel
theorem dX11_rule_80 : decode cX11_rule 80 = .ok (.getfield 165, 3) := by decide +kernel
theorem dX11_rule_83 : decode cX11_rule 83 = .ok (.invokevirtual 179, 3) := by decide +kernel
theorem dX11_rule_86 : decode cX11_rule 86 = .ok (.ireturn, 1) := by decide +kernel
theorem dX11_rule_87 : decode cX11_rule 87 = .ok (.aload_n 3, 1) := by decide +kernel
theorem dX11_rule_88 : decode cX11_rule 88 = .ok (.aload_n 3, 1) := by decide +kernel
theorem dX11_rule_89 : decode cX11_rule 89 = .ok (.getfield 165, 3) := by decide +kernel
theorem dX11_rule_92 : decode cX11_rule 92 = .ok (.aload_n 3, 1) := by decide +kernel
theorem dX11_rule_93 : decode cX11_rule 93 = .ok (.getfield 182, 3) := by decide +kernel
theorem dX11_rule_96 : decode cX11_rule 96 = .ok (.invokevirtual 179, 3) := by decide +kernel
theorem dX11_rule_99 : decode cX11_rule 99 = .ok (.ireturn, 1) := by decide +kernel
theorem dX11_rule_100 : decode cX11_rule 100 = .ok (.aload_n 0, 1) := by decide +kernel
theorem dX11_rule_101 : decode cX11_rule 101 = .ok (.getfield 48, 3) := by decide +kernel
theorem dX11_rule_104 : decode cX11_rule 104 = .ok (.iload_n 1, 1) := by decide +kernel
theorem dX11_rule_105 : decode cX11_rule 105 = .ok (.invokevirtual 183, 3) := by decide +kernel
theorem dX11_rule_108 : decode cX11_rule 108 = .ok (.getfield 187, 3) := by decide +kernel
theorem dX11_rule_111 : decode cX11_rule 111 = .ok (.ireturn, 1) := by decide +kernel
theorem dX11_rule_112 : decode cX11_rule 112 = .ok (.aload_n 0, 1) := by decide +kernel
theorem dX11_rule_113 : decode cX11_rule 113 = .ok (.getfield 48, 3) := by decide +kernel
theorem dX11_rule_116 : decode cX11_rule 116 = .ok (.iload_n 1, 1) := by decide +kernel
theorem dX11_rule_117 : decode cX11_rule 117 = .ok (.invokevirtual 183, 3) := by decide +kernel
theorem dX11_rule_120 : decode cX11_rule 120 = .ok (.aload_n 0, 1) := by decide +kernel
theorem dX11_rule_121 : decode cX11_rule 121 = .ok (.getfield 85, 3) := by decide +kernel
theorem dX11_rule_124 : decode cX11_rule 124 = .ok (.invokevirtual 190, 3) := by decide +kernel
theorem dX11_rule_127 : decode cX11_rule 127 = .ok (.ireturn, 1) := by decide +kernel
theorem dX11_rule_128 : decode cX11_rule 128 = .ok (.aload_n 0, 1) := by decide +kernel
theorem dX11_rule_129 : decode cX11_rule 129 = .ok (.bipush (-2), 2) := by decide +kernel
theorem dX11_rule_131 : decode cX11_rule 131 = .ok (.invokevirtual 88, 3) := by decide +kernel
theorem dX11_rule_134 : decode cX11_rule 134 = .ok (.ireturn, 1) := by decide +kernel
theorem dX11_finding_0 : decode cX11_finding 0 = .ok (.aload_n 0, 1) := by decide +kernel
theorem dX11_finding_1 : decode cX11_finding 1 = .ok (.getfield 10, 3) := by decide +kernel
theorem dX11_finding_4 : decode cX11_finding 4 = .ok (.iload_n 1, 1) := by decide +kernel
theorem dX11_finding_5 : decode cX11_finding 5 = .ok (.invokevirtual 158, 3) := by decide +kernel
theorem dX11_finding_8 : decode cX11_finding 8 = .ok (.ifCond .eq 16, 3) := by decide +kernel
theorem dX11_finding_11 : decode cX11_finding 11 = .ok (.iload_n 2, 1) := by decide +kernel
theorem dX11_finding_12 : decode cX11_finding 12 = .ok (.ifCond .lt 12, 3) := by decide +kernel
theorem dX11_finding_15 : decode cX11_finding 15 = .ok (.iload_n 3, 1) := by decide +kernel
theorem dX11_finding_16 : decode cX11_finding 16 = .ok (.ifCond .lt 8, 3) := by decide +kernel
theorem dX11_finding_19 : decode cX11_finding 19 = .ok (.iload_n 3, 1) := by decide +kernel
theorem dX11_finding_20 : decode cX11_finding 20 = .ok (.iconst 4, 1) := by decide +kernel
theorem dX11_finding_21 : decode cX11_finding 21 = .ok (.if_icmp .le 10, 3) := by decide +kernel
theorem dX11_finding_24 : decode cX11_finding 24 = .ok (.aload_n 0, 1) := by decide +kernel
theorem dX11_finding_25 : decode cX11_finding 25 = .ok (.bipush (-2), 2) := by decide +kernel
theorem dX11_finding_27 : decode cX11_finding 27 = .ok (.invokevirtual 88, 3) := by decide +kernel
theorem dX11_finding_30 : decode cX11_finding 30 = .ok (.ireturn, 1) := by decide +kernel
theorem dX11_finding_31 : decode cX11_finding 31 = .ok (.aload_n 0, 1) := by decide +kernel
theorem dX11_finding_32 : decode cX11_finding 32 = .ok (.getfield 48, 3) := by decide +kernel
theorem dX11_finding_35 : decode cX11_finding 35 = .ok (.iload_n 1, 1) := by decide +kernel
theorem dX11_finding_36 : decode cX11_finding 36 = .ok (.invokevirtual 183, 3) := by decide +kernel
theorem dX11_finding_39 : decode cX11_finding 39 = .ok (.astore 4, 2) := by decide +kernel
theorem dX11_finding_41 : decode cX11_finding 41 = .ok (.aload 4, 2) := by decide +kernel
theorem dX11_finding_43 : decode cX11_finding 43 = .ok (.iload_n 2, 1) := by decide +kernel
theorem dX11_finding_44 : decode cX11_finding 44 = .ok (.iload_n 3, 1) := by decide +kernel
theorem dX11_finding_45 : decode cX11_finding 45 = .ok (.invokevirtual 193, 3) := by decide +kernel
theorem dX11_finding_48 : decode cX11_finding 48 = .ok (.ireturn, 1) := by decide +kernel
theorem dX11_drop_0 : decode cX11_drop 0 = .ok (.aload_n 0, 1) := by decide +kernel
theorem dX11_drop_1 : decode cX11_drop 1 = .ok (.getfield 10, 3) := by decide +kernel
theorem dX11_drop_4 : decode cX11_drop 4 = .ok (.iload_n 1, 1) := by decide +kernel
theorem dX11_drop_5 : decode cX11_drop 5 = .ok (.invokevirtual 158, 3) := by decide +kernel
theorem dX11_drop_8 : decode cX11_drop 8 = .ok (.ifCond .ne 10, 3) := by decide +kernel
theorem dX11_drop_11 : decode cX11_drop 11 = .ok (.aload_n 0, 1) := by decide +kernel
theorem dX11_drop_12 : decode cX11_drop 12 = .ok (.bipush (-2), 2) := by decide +kernel
theorem dX11_drop_14 : decode cX11_drop 14 = .ok (.invokevirtual 88, 3) := by decide +kernel
theorem dX11_drop_17 : decode cX11_drop 17 = .ok (.ireturn, 1) := by decide +kernel
theorem dX11_drop_18 : decode cX11_drop 18 = .ok (.aload_n 0, 1) := by decide +kernel
theorem dX11_drop_19 : decode cX11_drop 19 = .ok (.getfield 19, 3) := by decide +kernel
theorem dX11_drop_22 : decode cX11_drop 22 = .ok (.aload_n 0, 1) := by decide +kernel
theorem dX11_drop_23 : decode cX11_drop 23 = .ok (.getfield 10, 3) := by decide +kernel
theorem dX11_drop_26 : decode cX11_drop 26 = .ok (.invokevirtual 105, 3) := by decide +kernel
theorem dX11_drop_29 : decode cX11_drop 29 = .ok (.aload_n 0, 1) := by decide +kernel
theorem dX11_drop_30 : decode cX11_drop 30 = .ok (.getfield 10, 3) := by decide +kernel
theorem dX11_drop_33 : decode cX11_drop 33 = .ok (.iload_n 1, 1) := by decide +kernel
theorem dX11_drop_34 : decode cX11_drop 34 = .ok (.invokevirtual 196, 3) := by decide +kernel
theorem dX11_drop_37 : decode cX11_drop 37 = .ok (.aload_n 0, 1) := by decide +kernel
theorem dX11_drop_38 : decode cX11_drop 38 = .ok (.getfield 48, 3) := by decide +kernel
theorem dX11_drop_41 : decode cX11_drop 41 = .ok (.invokevirtual 200, 3) := by decide +kernel
theorem dX11_drop_44 : decode cX11_drop 44 = .ok (.aload_n 0, 1) := by decide +kernel
theorem dX11_drop_45 : decode cX11_drop 45 = .ok (.getfield 10, 3) := by decide +kernel
theorem dX11_drop_48 : decode cX11_drop 48 = .ok (.getfield 203, 3) := by decide +kernel
theorem dX11_drop_51 : decode cX11_drop 51 = .ok (.ireturn, 1) := by decide +kernel
theorem dX11_sets_0 : decode cX11_sets 0 = .ok (.iload_n 1, 1) := by decide +kernel
theorem dX11_sets_1 : decode cX11_sets 1 = .ok (.ifCond .ne 7, 3) := by decide +kernel
theorem dX11_sets_4 : decode cX11_sets 4 = .ok (.iconst 3, 1) := by decide +kernel
theorem dX11_sets_5 : decode cX11_sets 5 = .ok (.goto 5, 3) := by decide +kernel
theorem dX11_sets_8 : decode cX11_sets 8 = .ok (.bipush 9, 2) := by decide +kernel
theorem dX11_sets_10 : decode cX11_sets 10 = .ok (.istore_n 3, 1) := by decide +kernel
theorem dX11_sets_11 : decode cX11_sets 11 = .ok (.iload_n 1, 1) := by decide +kernel
theorem dX11_sets_12 : decode cX11_sets 12 = .ok (.ifCond .lt 17, 3) := by decide +kernel
theorem dX11_sets_15 : decode cX11_sets 15 = .ok (.iload_n 1, 1) := by decide +kernel
theorem dX11_sets_16 : decode cX11_sets 16 = .ok (.iconst 1, 1) := by decide +kernel
theorem dX11_sets_17 : decode cX11_sets 17 = .ok (.if_icmp .gt 12, 3) := by decide +kernel
theorem dX11_sets_20 : decode cX11_sets 20 = .ok (.iload_n 2, 1) := by decide +kernel
theorem dX11_sets_21 : decode cX11_sets 21 = .ok (.ifCond .lt 8, 3) := by decide +kernel
theorem dX11_sets_24 : decode cX11_sets 24 = .ok (.iload_n 2, 1) := by decide +kernel
theorem dX11_sets_25 : decode cX11_sets 25 = .ok (.iload_n 3, 1) := by decide +kernel
theorem dX11_sets_26 : decode cX11_sets 26 = .ok (.if_icmp .le 10, 3) := by decide +kernel
theorem dX11_sets_29 : decode cX11_sets 29 = .ok (.aload_n 0, 1) := by decide +kernel
theorem dX11_sets_30 : decode cX11_sets 30 = .ok (.bipush (-2), 2) := by decide +kernel
theorem dX11_sets_32 : decode cX11_sets 32 = .ok (.invokevirtual 88, 3) := by decide +kernel
theorem dX11_sets_35 : decode cX11_sets 35 = .ok (.ireturn, 1) := by decide +kernel
theorem dX11_sets_36 : decode cX11_sets 36 = .ok (.iload_n 1, 1) := by decide +kernel
theorem dX11_sets_37 : decode cX11_sets 37 = .ok (.ifCond .ne 10, 3) := by decide +kernel
theorem dX11_sets_40 : decode cX11_sets 40 = .ok (.aload_n 0, 1) := by decide +kernel
theorem dX11_sets_41 : decode cX11_sets 41 = .ok (.getfield 81, 3) := by decide +kernel
theorem dX11_sets_44 : decode cX11_sets 44 = .ok (.goto 7, 3) := by decide +kernel
theorem dX11_sets_47 : decode cX11_sets 47 = .ok (.aload_n 0, 1) := by decide +kernel
theorem dX11_sets_48 : decode cX11_sets 48 = .ok (.getfield 85, 3) := by decide +kernel
theorem dX11_sets_51 : decode cX11_sets 51 = .ok (.istore 4, 2) := by decide +kernel
theorem dX11_sets_53 : decode cX11_sets 53 = .ok (.iload_n 1, 1) := by decide +kernel
theorem dX11_sets_54 : decode cX11_sets 54 = .ok (.ifCond .ne 11, 3) := by decide +kernel
theorem dX11_sets_57 : decode cX11_sets 57 = .ok (.aload_n 0, 1) := by decide +kernel
theorem dX11_sets_58 : decode cX11_sets 58 = .ok (.iload_n 2, 1) := by decide +kernel
theorem dX11_sets_59 : decode cX11_sets 59 = .ok (.putfield 81, 3) := by decide +kernel
theorem dX11_sets_62 : decode cX11_sets 62 = .ok (.goto 8, 3) := by decide +kernel
theorem dX11_sets_65 : decode cX11_sets 65 = .ok (.aload_n 0, 1) := by decide +kernel
theorem dX11_sets_66 : decode cX11_sets 66 = .ok (.iload_n 2, 1) := by decide +kernel
theorem dX11_sets_67 : decode cX11_sets 67 = .ok (.putfield 85, 3) := by decide +kernel
theorem dX11_sets_70 : decode cX11_sets 70 = .ok (.iload 4, 2) := by decide +kernel
theorem dX11_sets_72 : decode cX11_sets 72 = .ok (.ireturn, 1) := by decide +kernel
theorem dX11_round_0 : decode cX11_round 0 = .ok (.aload_n 0, 1) := by decide +kernel
theorem dX11_round_1 : decode cX11_round 1 = .ok (.getfield 19, 3) := by decide +kernel
theorem dX11_round_4 : decode cX11_round 4 = .ok (.aload_n 0, 1) := by decide +kernel
theorem dX11_round_5 : decode cX11_round 5 = .ok (.getfield 10, 3) := by decide +kernel
theorem dX11_round_8 : decode cX11_round 8 = .ok (.invokevirtual 105, 3) := by decide +kernel
theorem dX11_round_11 : decode cX11_round 11 = .ok (.aload_n 0, 1) := by decide +kernel
theorem dX11_round_12 : decode cX11_round 12 = .ok (.getfield 57, 3) := by decide +kernel
theorem dX11_round_15 : decode cX11_round 15 = .ok (.aload_n 0, 1) := by decide +kernel
theorem dX11_round_16 : decode cX11_round 16 = .ok (.getfield 81, 3) := by decide +kernel
theorem dX11_round_19 : decode cX11_round 19 = .ok (.aload_n 0, 1) := by decide +kernel
theorem dX11_round_20 : decode cX11_round 20 = .ok (.getfield 85, 3) := by decide +kernel
theorem dX11_round_23 : decode cX11_round 23 = .ok (.invokevirtual 206, 3) := by decide +kernel
theorem dX11_round_26 : decode cX11_round 26 = .ok (.ireturn, 1) := by decide +kernel
theorem dX11_rounds_0 : decode cX11_rounds 0 = .ok (.iload_n 1, 1) := by decide +kernel
theorem dX11_rounds_1 : decode cX11_rounds 1 = .ok (.iconst 1, 1) := by decide +kernel
theorem dX11_rounds_2 : decode cX11_rounds 2 = .ok (.if_icmp .lt 9, 3) := by decide +kernel
theorem dX11_rounds_5 : decode cX11_rounds 5 = .ok (.iload_n 1, 1) := by decide +kernel
theorem dX11_rounds_6 : decode cX11_rounds 6 = .ok (.bipush 9, 2) := by decide +kernel
theorem dX11_rounds_8 : decode cX11_rounds 8 = .ok (.if_icmp .le 10, 3) := by decide +kernel
theorem dX11_rounds_11 : decode cX11_rounds 11 = .ok (.aload_n 0, 1) := by decide +kernel
theorem dX11_rounds_12 : decode cX11_rounds 12 = .ok (.bipush (-2), 2) := by decide +kernel
theorem dX11_rounds_14 : decode cX11_rounds 14 = .ok (.invokevirtual 88, 3) := by decide +kernel
theorem dX11_rounds_17 : decode cX11_rounds 17 = .ok (.ireturn, 1) := by decide +kernel
theorem dX11_rounds_18 : decode cX11_rounds 18 = .ok (.aload_n 0, 1) := by decide +kernel
theorem dX11_rounds_19 : decode cX11_rounds 19 = .ok (.getfield 19, 3) := by decide +kernel
theorem dX11_rounds_22 : decode cX11_rounds 22 = .ok (.aload_n 0, 1) := by decide +kernel
theorem dX11_rounds_23 : decode cX11_rounds 23 = .ok (.getfield 10, 3) := by decide +kernel
theorem dX11_rounds_26 : decode cX11_rounds 26 = .ok (.invokevirtual 105, 3) := by decide +kernel
theorem dX11_rounds_29 : decode cX11_rounds 29 = .ok (.iconst 0, 1) := by decide +kernel
theorem dX11_rounds_30 : decode cX11_rounds 30 = .ok (.istore_n 2, 1) := by decide +kernel
theorem dX11_rounds_31 : decode cX11_rounds 31 = .ok (.iload_n 2, 1) := by decide +kernel
theorem dX11_rounds_32 : decode cX11_rounds 32 = .ok (.iload_n 1, 1) := by decide +kernel
theorem dX11_rounds_33 : decode cX11_rounds 33 = .ok (.if_icmp .ge 27, 3) := by decide +kernel
theorem dX11_rounds_36 : decode cX11_rounds 36 = .ok (.aload_n 0, 1) := by decide +kernel
theorem dX11_rounds_37 : decode cX11_rounds 37 = .ok (.getfield 57, 3) := by decide +kernel
theorem dX11_rounds_40 : decode cX11_rounds 40 = .ok (.aload_n 0, 1) := by decide +kernel
theorem dX11_rounds_41 : decode cX11_rounds 41 = .ok (.getfield 81, 3) := by decide +kernel
theorem dX11_rounds_44 : decode cX11_rounds 44 = .ok (.aload_n 0, 1) := by decide +kernel
theorem dX11_rounds_45 : decode cX11_rounds 45 = .ok (.getfield 85, 3) := by decide +kernel
theorem dX11_rounds_48 : decode cX11_rounds 48 = .ok (.invokevirtual 206, 3) := by decide +kernel
theorem dX11_rounds_51 : decode cX11_rounds 51 = .ok (.ifCond .le 9, 3) := by decide +kernel
theorem dX11_rounds_54 : decode cX11_rounds 54 = .ok (.iinc 2 1, 3) := by decide +kernel
theorem dX11_rounds_57 : decode cX11_rounds 57 = .ok (.goto (-26), 3) := by decide +kernel
theorem dX11_rounds_60 : decode cX11_rounds 60 = .ok (.iload_n 2, 1) := by decide +kernel
theorem dX11_rounds_61 : decode cX11_rounds 61 = .ok (.ireturn, 1) := by decide +kernel
theorem dX11_last_0 : decode cX11_last 0 = .ok (.iload_n 1, 1) := by decide +kernel
theorem dX11_last_1 : decode cX11_last 1 = .ok (.ifCond .lt 8, 3) := by decide +kernel
theorem dX11_last_4 : decode cX11_last 4 = .ok (.iload_n 1, 1) := by decide +kernel
theorem dX11_last_5 : decode cX11_last 5 = .ok (.iconst 5, 1) := by decide +kernel
theorem dX11_last_6 : decode cX11_last 6 = .ok (.if_icmp .lt 10, 3) := by decide +kernel
theorem dX11_last_9 : decode cX11_last 9 = .ok (.aload_n 0, 1) := by decide +kernel
theorem dX11_last_10 : decode cX11_last 10 = .ok (.bipush (-2), 2) := by decide +kernel
theorem dX11_last_12 : decode cX11_last 12 = .ok (.invokevirtual 88, 3) := by decide +kernel
theorem dX11_last_15 : decode cX11_last 15 = .ok (.ireturn, 1) := by decide +kernel
theorem dX11_last_16 : decode cX11_last 16 = .ok (.aload_n 0, 1) := by decide +kernel
theorem dX11_last_17 : decode cX11_last 17 = .ok (.getfield 57, 3) := by decide +kernel
theorem dX11_last_20 : decode cX11_last 20 = .ok (.getfield 209, 3) := by decide +kernel
theorem dX11_last_23 : decode cX11_last 23 = .ok (.iload_n 1, 1) := by decide +kernel
theorem dX11_last_24 : decode cX11_last 24 = .ok (.iaload, 1) := by decide +kernel
theorem dX11_last_25 : decode cX11_last 25 = .ok (.ireturn, 1) := by decide +kernel
theorem dX11_still_0 : decode cX11_still 0 = .ok (.aload_n 0, 1) := by decide +kernel
theorem dX11_still_1 : decode cX11_still 1 = .ok (.getfield 57, 3) := by decide +kernel
theorem dX11_still_4 : decode cX11_still 4 = .ok (.aload_n 0, 1) := by decide +kernel
theorem dX11_still_5 : decode cX11_still 5 = .ok (.getfield 85, 3) := by decide +kernel
theorem dX11_still_8 : decode cX11_still 8 = .ok (.invokevirtual 212, 3) := by decide +kernel
theorem dX11_still_11 : decode cX11_still 11 = .ok (.ifCond .eq 7, 3) := by decide +kernel
theorem dX11_still_14 : decode cX11_still 14 = .ok (.iconst 0, 1) := by decide +kernel
theorem dX11_still_15 : decode cX11_still 15 = .ok (.goto 4, 3) := by decide +kernel
theorem dX11_still_18 : decode cX11_still 18 = .ok (.iconst 1, 1) := by decide +kernel
theorem dX11_still_19 : decode cX11_still 19 = .ok (.ireturn, 1) := by decide +kernel
theorem dX11_type_0 : decode cX11_type 0 = .ok (.iload_n 1, 1) := by decide +kernel
theorem dX11_type_1 : decode cX11_type 1 = .ok (.ifCond .lt 9, 3) := by decide +kernel
theorem dX11_type_4 : decode cX11_type 4 = .ok (.iload_n 1, 1) := by decide +kernel
theorem dX11_type_5 : decode cX11_type 5 = .ok (.bipush 127, 2) := by decide +kernel
theorem dX11_type_7 : decode cX11_type 7 = .ok (.if_icmp .le 10, 3) := by decide +kernel
theorem dX11_type_10 : decode cX11_type 10 = .ok (.aload_n 0, 1) := by decide +kernel
theorem dX11_type_11 : decode cX11_type 11 = .ok (.bipush (-2), 2) := by decide +kernel
theorem dX11_type_13 : decode cX11_type 13 = .ok (.invokevirtual 88, 3) := by decide +kernel
theorem dX11_type_16 : decode cX11_type 16 = .ok (.ireturn, 1) := by decide +kernel
theorem dX11_type_17 : decode cX11_type 17 = .ok (.aload_n 0, 1) := by decide +kernel
theorem dX11_type_18 : decode cX11_type 18 = .ok (.getfield 66, 3) := by decide +kernel
theorem dX11_type_21 : decode cX11_type 21 = .ok (.getfield 215, 3) := by decide +kernel
theorem dX11_type_24 : decode cX11_type 24 = .ok (.bipush 120, 2) := by decide +kernel
theorem dX11_type_26 : decode cX11_type 26 = .ok (.if_icmp .lt 10, 3) := by decide +kernel
theorem dX11_type_29 : decode cX11_type 29 = .ok (.aload_n 0, 1) := by decide +kernel
theorem dX11_type_30 : decode cX11_type 30 = .ok (.bipush (-4), 2) := by decide +kernel
theorem dX11_type_32 : decode cX11_type 32 = .ok (.invokevirtual 88, 3) := by decide +kernel
theorem dX11_type_35 : decode cX11_type 35 = .ok (.ireturn, 1) := by decide +kernel
theorem dX11_type_36 : decode cX11_type 36 = .ok (.aload_n 0, 1) := by decide +kernel
theorem dX11_type_37 : decode cX11_type 37 = .ok (.getfield 66, 3) := by decide +kernel
theorem dX11_type_40 : decode cX11_type 40 = .ok (.getfield 218, 3) := by decide +kernel
theorem dX11_type_43 : decode cX11_type 43 = .ok (.aload_n 0, 1) := by decide +kernel
theorem dX11_type_44 : decode cX11_type 44 = .ok (.getfield 66, 3) := by decide +kernel
theorem dX11_type_47 : decode cX11_type 47 = .ok (.getfield 215, 3) := by decide +kernel
theorem dX11_type_50 : decode cX11_type 50 = .ok (.iload_n 1, 1) := by decide +kernel
theorem dX11_type_51 : decode cX11_type 51 = .ok (.iastore, 1) := by decide +kernel
theorem dX11_type_52 : decode cX11_type 52 = .ok (.aload_n 0, 1) := by decide +kernel
theorem dX11_type_53 : decode cX11_type 53 = .ok (.getfield 66, 3) := by decide +kernel
theorem dX11_type_56 : decode cX11_type 56 = .ok (.dup, 1) := by decide +kernel
theorem dX11_type_57 : decode cX11_type 57 = .ok (.getfield 215, 3) := by decide +kernel
theorem dX11_type_60 : decode cX11_type 60 = .ok (.iconst 1, 1) := by decide +kernel
theorem dX11_type_61 : decode cX11_type 61 = .ok (.iadd, 1) := by decide +kernel
theorem dX11_type_62 : decode cX11_type 62 = .ok (.putfield 215, 3) := by decide +kernel
theorem dX11_type_65 : decode cX11_type 65 = .ok (.aload_n 0, 1) := by decide +kernel
theorem dX11_type_66 : decode cX11_type 66 = .ok (.getfield 66, 3) := by decide +kernel
theorem dX11_type_69 : decode cX11_type 69 = .ok (.getfield 215, 3) := by decide +kernel
theorem dX11_type_72 : decode cX11_type 72 = .ok (.ireturn, 1) := by decide +kernel
theorem dX11_clear_0 : decode cX11_clear 0 = .ok (.aload_n 0, 1) := by decide +kernel
theorem dX11_clear_1 : decode cX11_clear 1 = .ok (.getfield 66, 3) := by decide +kernel
theorem dX11_clear_4 : decode cX11_clear 4 = .ok (.getfield 215, 3) := by decide +kernel
theorem dX11_clear_7 : decode cX11_clear 7 = .ok (.istore_n 1, 1) := by decide +kernel
theorem dX11_clear_8 : decode cX11_clear 8 = .ok (.aload_n 0, 1) := by decide +kernel
theorem dX11_clear_9 : decode cX11_clear 9 = .ok (.getfield 66, 3) := by decide +kernel
theorem dX11_clear_12 : decode cX11_clear 12 = .ok (.iconst 0, 1) := by decide +kernel
theorem dX11_clear_13 : decode cX11_clear 13 = .ok (.putfield 215, 3) := by decide +kernel
theorem dX11_clear_16 : decode cX11_clear 16 = .ok (.iload_n 1, 1) := by decide +kernel
theorem dX11_clear_17 : decode cX11_clear 17 = .ok (.ireturn, 1) := by decide +kernel
theorem dX11_reads_0 : decode cX11_reads 0 = .ok (.aload_n 0, 1) := by decide +kernel
theorem dX11_reads_1 : decode cX11_reads 1 = .ok (.getfield 19, 3) := by decide +kernel
theorem dX11_reads_4 : decode cX11_reads 4 = .ok (.aload_n 0, 1) := by decide +kernel
theorem dX11_reads_5 : decode cX11_reads 5 = .ok (.getfield 10, 3) := by decide +kernel
theorem dX11_reads_8 : decode cX11_reads 8 = .ok (.invokevirtual 221, 3) := by decide +kernel
theorem dX11_reads_11 : decode cX11_reads 11 = .ok (.aload_n 0, 1) := by decide +kernel
theorem dX11_reads_12 : decode cX11_reads 12 = .ok (.getfield 66, 3) := by decide +kernel
theorem dX11_reads_15 : decode cX11_reads 15 = .ok (.invokevirtual 224, 3) := by decide +kernel
theorem dX11_reads_18 : decode cX11_reads 18 = .ok (.istore_n 1, 1) := by decide +kernel
theorem dX11_reads_19 : decode cX11_reads 19 = .ok (.iload_n 1, 1) := by decide +kernel
theorem dX11_reads_20 : decode cX11_reads 20 = .ok (.ifCond .le 13, 3) := by decide +kernel
theorem dX11_reads_23 : decode cX11_reads 23 = .ok (.aload_n 0, 1) := by decide +kernel
theorem dX11_reads_24 : decode cX11_reads 24 = .ok (.getfield 19, 3) := by decide +kernel
theorem dX11_reads_27 : decode cX11_reads 27 = .ok (.invokevirtual 227, 3) := by decide +kernel
theorem dX11_reads_30 : decode cX11_reads 30 = .ok (.goto 14, 3) := by decide +kernel
theorem dX11_reads_33 : decode cX11_reads 33 = .ok (.aload_n 0, 1) := by decide +kernel
theorem dX11_reads_34 : decode cX11_reads 34 = .ok (.getfield 19, 3) := by decide +kernel
theorem dX11_reads_37 : decode cX11_reads 37 = .ok (.aload_n 0, 1) := by decide +kernel
theorem dX11_reads_38 : decode cX11_reads 38 = .ok (.getfield 10, 3) := by decide +kernel
theorem dX11_reads_41 : decode cX11_reads 41 = .ok (.invokevirtual 230, 3) := by decide +kernel
theorem dX11_reads_44 : decode cX11_reads 44 = .ok (.aload_n 0, 1) := by decide +kernel
theorem dX11_reads_45 : decode cX11_reads 45 = .ok (.invokevirtual 116, 3) := by decide +kernel
theorem dX11_reads_48 : decode cX11_reads 48 = .ok (.iload_n 1, 1) := by decide +kernel
theorem dX11_reads_49 : decode cX11_reads 49 = .ok (.ireturn, 1) := by decide +kernel
theorem dX11_writing_0 : decode cX11_writing 0 = .ok (.aload_n 0, 1) := by decide +kernel
theorem dX11_writing_1 : decode cX11_writing 1 = .ok (.getfield 10, 3) := by decide +kernel
theorem dX11_writing_4 : decode cX11_writing 4 = .ok (.getfield 32, 3) := by decide +kernel
theorem dX11_writing_7 : decode cX11_writing 7 = .ok (.iload_n 1, 1) := by decide +kernel
theorem dX11_writing_8 : decode cX11_writing 8 = .ok (.invokevirtual 92, 3) := by decide +kernel
theorem dX11_writing_11 : decode cX11_writing 11 = .ok (.ifCond .eq 8, 3) := by decide +kernel
theorem dX11_writing_14 : decode cX11_writing 14 = .ok (.iload_n 2, 1) := by decide +kernel
theorem dX11_writing_15 : decode cX11_writing 15 = .ok (.iconst (-1), 1) := by decide +kernel
theorem dX11_writing_16 : decode cX11_writing 16 = .ok (.if_icmp .ge 13, 3) := by decide +kernel
theorem dX11_writing_19 : decode cX11_writing 19 = .ok (.aload_n 0, 1) := by decide +kernel
theorem dX11_writing_20 : decode cX11_writing 20 = .ok (.bipush (-2), 2) := by decide +kernel
theorem dX11_writing_22 : decode cX11_writing 22 = .ok (.invokevirtual 88, 3) := by decide +kernel
theorem dX11_writing_25 : decode cX11_writing 25 = .ok (.pop, 1) := by decide +kernel
theorem dX11_writing_26 : decode cX11_writing 26 = .ok (.bipush (-10), 2) := by decide +kernel
theorem dX11_writing_28 : decode cX11_writing 28 = .ok (.ireturn, 1) := by decide +kernel
theorem dX11_writing_29 : decode cX11_writing 29 = .ok (.aload_n 0, 1) := by decide +kernel
theorem dX11_writing_30 : decode cX11_writing 30 = .ok (.getfield 73, 3) := by decide +kernel
theorem dX11_writing_33 : decode cX11_writing 33 = .ok (.aload_n 0, 1) := by decide +kernel
theorem dX11_writing_34 : decode cX11_writing 34 = .ok (.getfield 10, 3) := by decide +kernel
theorem dX11_writing_37 : decode cX11_writing 37 = .ok (.getfield 32, 3) := by decide +kernel
theorem dX11_writing_40 : decode cX11_writing 40 = .ok (.iload_n 1, 1) := by decide +kernel
theorem dX11_writing_41 : decode cX11_writing 41 = .ok (.invokevirtual 233, 3) := by decide +kernel
theorem dX11_writing_44 : decode cX11_writing 44 = .ok (.istore_n 3, 1) := by decide +kernel
theorem dX11_writing_45 : decode cX11_writing 45 = .ok (.iload_n 2, 1) := by decide +kernel
theorem dX11_writing_46 : decode cX11_writing 46 = .ok (.iconst (-1), 1) := by decide +kernel
theorem dX11_writing_47 : decode cX11_writing 47 = .ok (.if_icmp .ne 5, 3) := by decide +kernel
theorem dX11_writing_50 : decode cX11_writing 50 = .ok (.iload_n 3, 1) := by decide +kernel
theorem dX11_writing_51 : decode cX11_writing 51 = .ok (.ireturn, 1) := by decide +kernel
theorem dX11_writing_52 : decode cX11_writing 52 = .ok (.iload_n 2, 1) := by decide +kernel
theorem dX11_writing_53 : decode cX11_writing 53 = .ok (.iload_n 3, 1) := by decide +kernel
theorem dX11_writing_54 : decode cX11_writing 54 = .ok (.if_icmp .ge 15, 3) := by decide +kernel
theorem dX11_writing_57 : decode cX11_writing 57 = .ok (.aload_n 0, 1) := by decide +kernel
theorem dX11_writing_58 : decode cX11_writing 58 = .ok (.getfield 73, 3) := by decide +kernel
theorem dX11_writing_61 : decode cX11_writing 61 = .ok (.getfield 236, 3) := by decide +kernel
theorem dX11_writing_64 : decode cX11_writing 64 = .ok (.iload_n 2, 1) := by decide +kernel
theorem dX11_writing_65 : decode cX11_writing 65 = .ok (.iaload, 1) := by decide +kernel
theorem dX11_writing_66 : decode cX11_writing 66 = .ok (.goto 5, 3) := by decide +kernel
theorem dX11_writing_69 : decode cX11_writing 69 = .ok (.bipush (-5), 2) := by decide +kernel
theorem dX11_writing_71 : decode cX11_writing 71 = .ok (.ireturn, 1) := by decide +kernel
theorem dX11_back_0 : decode cX11_back 0 = .ok (.aload_n 0, 1) := by decide +kernel
theorem dX11_back_1 : decode cX11_back 1 = .ok (.getfield 19, 3) := by decide +kernel
theorem dX11_back_4 : decode cX11_back 4 = .ok (.getfield 239, 3) := by decide +kernel
theorem dX11_back_7 : decode cX11_back 7 = .ok (.ifCond .ne 10, 3) := by decide +kernel
theorem dX11_back_10 : decode cX11_back 10 = .ok (.aload_n 0, 1) := by decide +kernel
theorem dX11_back_11 : decode cX11_back 11 = .ok (.bipush (-3), 2) := by decide +kernel
theorem dX11_back_13 : decode cX11_back 13 = .ok (.invokevirtual 88, 3) := by decide +kernel
theorem dX11_back_16 : decode cX11_back 16 = .ok (.ireturn, 1) := by decide +kernel
theorem dX11_back_17 : decode cX11_back 17 = .ok (.aload_n 0, 1) := by decide +kernel
theorem dX11_back_18 : decode cX11_back 18 = .ok (.getfield 19, 3) := by decide +kernel
theorem dX11_back_21 : decode cX11_back 21 = .ok (.aload_n 0, 1) := by decide +kernel
theorem dX11_back_22 : decode cX11_back 22 = .ok (.getfield 10, 3) := by decide +kernel
theorem dX11_back_25 : decode cX11_back 25 = .ok (.invokevirtual 240, 3) := by decide +kernel
theorem dX11_back_28 : decode cX11_back 28 = .ok (.aload_n 0, 1) := by decide +kernel
theorem dX11_back_29 : decode cX11_back 29 = .ok (.invokevirtual 116, 3) := by decide +kernel
theorem dX11_back_32 : decode cX11_back 32 = .ok (.aload_n 0, 1) := by decide +kernel
theorem dX11_back_33 : decode cX11_back 33 = .ok (.getfield 19, 3) := by decide +kernel
theorem dX11_back_36 : decode cX11_back 36 = .ok (.getfield 239, 3) := by decide +kernel
theorem dX11_back_39 : decode cX11_back 39 = .ok (.ireturn, 1) := by decide +kernel
theorem dX11_told_0 : decode cX11_told 0 = .ok (.iload_n 1, 1) := by decide +kernel
theorem dX11_told_1 : decode cX11_told 1 = .ok (.tableswitch 103 0 8 #[51, 51, 51, 58, 66, 77, 85, 90, 95], 51) := by decide +kernel
theorem dX11_told_52 : decode cX11_told 52 = .ok (.aload_n 0, 1) := by decide +kernel
theorem dX11_told_53 : decode cX11_told 53 = .ok (.getfield 77, 3) := by decide +kernel
theorem dX11_told_56 : decode cX11_told 56 = .ok (.iload_n 1, 1) := by decide +kernel
theorem dX11_told_57 : decode cX11_told 57 = .ok (.iaload, 1) := by decide +kernel
theorem dX11_told_58 : decode cX11_told 58 = .ok (.ireturn, 1) := by decide +kernel
theorem dX11_told_59 : decode cX11_told 59 = .ok (.aload_n 0, 1) := by decide +kernel
theorem dX11_told_60 : decode cX11_told 60 = .ok (.getfield 66, 3) := by decide +kernel
theorem dX11_told_63 : decode cX11_told 63 = .ok (.getfield 215, 3) := by decide +kernel
theorem dX11_told_66 : decode cX11_told 66 = .ok (.ireturn, 1) := by decide +kernel
theorem dX11_told_67 : decode cX11_told 67 = .ok (.aload_n 0, 1) := by decide +kernel
theorem dX11_told_68 : decode cX11_told 68 = .ok (.getfield 10, 3) := by decide +kernel
theorem dX11_told_71 : decode cX11_told 71 = .ok (.getfield 32, 3) := by decide +kernel
theorem dX11_told_74 : decode cX11_told 74 = .ok (.getfield 102, 3) := by decide +kernel
theorem dX11_told_77 : decode cX11_told 77 = .ok (.ireturn, 1) := by decide +kernel
theorem dX11_told_78 : decode cX11_told 78 = .ok (.aload_n 0, 1) := by decide +kernel
theorem dX11_told_79 : decode cX11_told 79 = .ok (.getfield 10, 3) := by decide +kernel
theorem dX11_told_82 : decode cX11_told 82 = .ok (.getfield 203, 3) := by decide +kernel
theorem dX11_told_85 : decode cX11_told 85 = .ok (.ireturn, 1) := by decide +kernel
theorem dX11_told_86 : decode cX11_told 86 = .ok (.aload_n 0, 1) := by decide +kernel
theorem dX11_told_87 : decode cX11_told 87 = .ok (.getfield 81, 3) := by decide +kernel
theorem dX11_told_90 : decode cX11_told 90 = .ok (.ireturn, 1) := by decide +kernel
theorem dX11_told_91 : decode cX11_told 91 = .ok (.aload_n 0, 1) := by decide +kernel
theorem dX11_told_92 : decode cX11_told 92 = .ok (.getfield 85, 3) := by decide +kernel
theorem dX11_told_95 : decode cX11_told 95 = .ok (.ireturn, 1) := by decide +kernel
theorem dX11_told_96 : decode cX11_told 96 = .ok (.aload_n 0, 1) := by decide +kernel
theorem dX11_told_97 : decode cX11_told 97 = .ok (.getfield 19, 3) := by decide +kernel
theorem dX11_told_100 : decode cX11_told 100 = .ok (.getfield 239, 3) := by decide +kernel
theorem dX11_told_103 : decode cX11_told 103 = .ok (.ireturn, 1) := by decide +kernel
theorem dX11_told_104 : decode cX11_told 104 = .ok (.aload_n 0, 1) := by decide +kernel
theorem dX11_told_105 : decode cX11_told 105 = .ok (.bipush (-2), 2) := by decide +kernel
theorem dX11_told_107 : decode cX11_told 107 = .ok (.invokevirtual 88, 3) := by decide +kernel
theorem dX11_told_110 : decode cX11_told 110 = .ok (.ireturn, 1) := by decide +kernel
theorem dX11_digest_0 : decode cX11_digest 0 = .ok (.ldc2_w 243, 3) := by decide +kernel
theorem dX11_digest_3 : decode cX11_digest 3 = .ok (.lstore_n 1, 1) := by decide +kernel
theorem dX11_digest_4 : decode cX11_digest 4 = .ok (.iconst 0, 1) := by decide +kernel
theorem dX11_digest_5 : decode cX11_digest 5 = .ok (.istore_n 3, 1) := by decide +kernel
theorem dX11_digest_6 : decode cX11_digest 6 = .ok (.iload_n 3, 1) := by decide +kernel
theorem dX11_digest_7 : decode cX11_digest 7 = .ok (.bipush 8, 2) := by decide +kernel
theorem dX11_digest_9 : decode cX11_digest 9 = .ok (.if_icmp .gt 22, 3) := by decide +kernel
theorem dX11_digest_12 : decode cX11_digest 12 = .ok (.ldc2_w 245, 3) := by decide +kernel
theorem dX11_digest_15 : decode cX11_digest 15 = .ok (.lload_n 1, 1) := by decide +kernel
theorem dX11_digest_16 : decode cX11_digest 16 = .ok (.lmul, 1) := by decide +kernel
theorem dX11_digest_17 : decode cX11_digest 17 = .ok (.aload_n 0, 1) := by decide +kernel
theorem dX11_digest_18 : decode cX11_digest 18 = .ok (.iload_n 3, 1) := by decide +kernel
theorem dX11_digest_19 : decode cX11_digest 19 = .ok (.invokevirtual 247, 3) := by decide +kernel
theorem dX11_digest_22 : decode cX11_digest 22 = .ok (.i2l, 1) := by decide +kernel
theorem dX11_digest_23 : decode cX11_digest 23 = .ok (.ladd, 1) := by decide +kernel
theorem dX11_digest_24 : decode cX11_digest 24 = .ok (.lstore_n 1, 1) := by decide +kernel
theorem dX11_digest_25 : decode cX11_digest 25 = .ok (.iinc 3 1, 3) := by decide +kernel
theorem dX11_digest_28 : decode cX11_digest 28 = .ok (.goto (-22), 3) := by decide +kernel
theorem dX11_digest_31 : decode cX11_digest 31 = .ok (.iconst 0, 1) := by decide +kernel
theorem dX11_digest_32 : decode cX11_digest 32 = .ok (.istore_n 3, 1) := by decide +kernel
theorem dX11_digest_33 : decode cX11_digest 33 = .ok (.iload_n 3, 1) := by decide +kernel
theorem dX11_digest_34 : decode cX11_digest 34 = .ok (.aload_n 0, 1) := by decide +kernel
theorem dX11_digest_35 : decode cX11_digest 35 = .ok (.getfield 10, 3) := by decide +kernel
theorem dX11_digest_38 : decode cX11_digest 38 = .ok (.getfield 32, 3) := by decide +kernel
theorem dX11_digest_41 : decode cX11_digest 41 = .ok (.getfield 102, 3) := by decide +kernel
theorem dX11_digest_44 : decode cX11_digest 44 = .ok (.if_icmp .ge 39, 3) := by decide +kernel
theorem dX11_digest_47 : decode cX11_digest 47 = .ok (.iconst 0, 1) := by decide +kernel
theorem dX11_digest_48 : decode cX11_digest 48 = .ok (.istore 4, 2) := by decide +kernel
theorem dX11_digest_50 : decode cX11_digest 50 = .ok (.iload 4, 2) := by decide +kernel
theorem dX11_digest_52 : decode cX11_digest 52 = .ok (.iconst 4, 1) := by decide +kernel
theorem dX11_digest_53 : decode cX11_digest 53 = .ok (.if_icmp .gt 24, 3) := by decide +kernel
theorem dX11_digest_56 : decode cX11_digest 56 = .ok (.ldc2_w 245, 3) := by decide +kernel
theorem dX11_digest_59 : decode cX11_digest 59 = .ok (.lload_n 1, 1) := by decide +kernel
theorem dX11_digest_60 : decode cX11_digest 60 = .ok (.lmul, 1) := by decide +kernel
theorem dX11_digest_61 : decode cX11_digest 61 = .ok (.aload_n 0, 1) := by decide +kernel
theorem dX11_digest_62 : decode cX11_digest 62 = .ok (.iload_n 3, 1) := by decide +kernel
theorem dX11_digest_63 : decode cX11_digest 63 = .ok (.iload 4, 2) := by decide +kernel
theorem dX11_digest_65 : decode cX11_digest 65 = .ok (.invokevirtual 250, 3) := by decide +kernel
theorem dX11_digest_68 : decode cX11_digest 68 = .ok (.i2l, 1) := by decide +kernel
theorem dX11_digest_69 : decode cX11_digest 69 = .ok (.ladd, 1) := by decide +kernel
theorem dX11_digest_70 : decode cX11_digest 70 = .ok (.lstore_n 1, 1) := by decide +kernel
theorem dX11_digest_71 : decode cX11_digest 71 = .ok (.iinc 4 1, 3) := by decide +kernel
theorem dX11_digest_74 : decode cX11_digest 74 = .ok (.goto (-24), 3) := by decide +kernel
theorem dX11_digest_77 : decode cX11_digest 77 = .ok (.iinc 3 1, 3) := by decide +kernel
theorem dX11_digest_80 : decode cX11_digest 80 = .ok (.goto (-47), 3) := by decide +kernel
theorem dX11_digest_83 : decode cX11_digest 83 = .ok (.ldc2_w 245, 3) := by decide +kernel
theorem dX11_digest_86 : decode cX11_digest 86 = .ok (.lload_n 1, 1) := by decide +kernel
theorem dX11_digest_87 : decode cX11_digest 87 = .ok (.lmul, 1) := by decide +kernel
theorem dX11_digest_88 : decode cX11_digest 88 = .ok (.aload_n 0, 1) := by decide +kernel
theorem dX11_digest_89 : decode cX11_digest 89 = .ok (.invokevirtual 119, 3) := by decide +kernel
theorem dX11_digest_92 : decode cX11_digest 92 = .ok (.i2l, 1) := by decide +kernel
theorem dX11_digest_93 : decode cX11_digest 93 = .ok (.ladd, 1) := by decide +kernel
theorem dX11_digest_94 : decode cX11_digest 94 = .ok (.lstore_n 1, 1) := by decide +kernel
theorem dX11_digest_95 : decode cX11_digest 95 = .ok (.iconst 0, 1) := by decide +kernel
theorem dX11_digest_96 : decode cX11_digest 96 = .ok (.istore_n 3, 1) := by decide +kernel
theorem dX11_digest_97 : decode cX11_digest 97 = .ok (.iload_n 3, 1) := by decide +kernel
theorem dX11_digest_98 : decode cX11_digest 98 = .ok (.aload_n 0, 1) := by decide +kernel
theorem dX11_digest_99 : decode cX11_digest 99 = .ok (.getfield 10, 3) := by decide +kernel
theorem dX11_digest_102 : decode cX11_digest 102 = .ok (.getfield 203, 3) := by decide +kernel
theorem dX11_digest_105 : decode cX11_digest 105 = .ok (.if_icmp .ge 39, 3) := by decide +kernel
theorem dX11_digest_108 : decode cX11_digest 108 = .ok (.iconst 0, 1) := by decide +kernel
theorem dX11_digest_109 : decode cX11_digest 109 = .ok (.istore 4, 2) := by decide +kernel
theorem dX11_digest_111 : decode cX11_digest 111 = .ok (.iload 4, 2) := by decide +kernel
theorem dX11_digest_113 : decode cX11_digest 113 = .ok (.iconst 3, 1) := by decide +kernel
theorem dX11_digest_114 : decode cX11_digest 114 = .ok (.if_icmp .gt 24, 3) := by decide +kernel
theorem dX11_digest_117 : decode cX11_digest 117 = .ok (.ldc2_w 245, 3) := by decide +kernel
theorem dX11_digest_120 : decode cX11_digest 120 = .ok (.lload_n 1, 1) := by decide +kernel
theorem dX11_digest_121 : decode cX11_digest 121 = .ok (.lmul, 1) := by decide +kernel
theorem dX11_digest_122 : decode cX11_digest 122 = .ok (.aload_n 0, 1) := by decide +kernel
theorem dX11_digest_123 : decode cX11_digest 123 = .ok (.iload_n 3, 1) := by decide +kernel
theorem dX11_digest_124 : decode cX11_digest 124 = .ok (.iload 4, 2) := by decide +kernel
theorem dX11_digest_126 : decode cX11_digest 126 = .ok (.invokevirtual 253, 3) := by decide +kernel
theorem dX11_digest_129 : decode cX11_digest 129 = .ok (.i2l, 1) := by decide +kernel
theorem dX11_digest_130 : decode cX11_digest 130 = .ok (.ladd, 1) := by decide +kernel
theorem dX11_digest_131 : decode cX11_digest 131 = .ok (.lstore_n 1, 1) := by decide +kernel
theorem dX11_digest_132 : decode cX11_digest 132 = .ok (.iinc 4 1, 3) := by decide +kernel
theorem dX11_digest_135 : decode cX11_digest 135 = .ok (.goto (-24), 3) := by decide +kernel
theorem dX11_digest_138 : decode cX11_digest 138 = .ok (.iinc 3 1, 3) := by decide +kernel
theorem dX11_digest_141 : decode cX11_digest 141 = .ok (.goto (-44), 3) := by decide +kernel
theorem dX11_digest_144 : decode cX11_digest 144 = .ok (.lload_n 1, 1) := by decide +kernel
theorem dX11_digest_145 : decode cX11_digest 145 = .ok (.lreturn, 1) := by decide +kernel
theorem dX11_refuse_0 : decode cX11_refuse 0 = .ok (.bipush (-2), 2) := by decide +kernel
theorem dX11_refuse_2 : decode cX11_refuse 2 = .ok (.iload_n 1, 1) := by decide +kernel
theorem dX11_refuse_3 : decode cX11_refuse 3 = .ok (.isub, 1) := by decide +kernel
theorem dX11_refuse_4 : decode cX11_refuse 4 = .ok (.istore_n 2, 1) := by decide +kernel
theorem dX11_refuse_5 : decode cX11_refuse 5 = .ok (.iload_n 2, 1) := by decide +kernel
theorem dX11_refuse_6 : decode cX11_refuse 6 = .ok (.ifCond .lt 22, 3) := by decide +kernel
theorem dX11_refuse_9 : decode cX11_refuse 9 = .ok (.iload_n 2, 1) := by decide +kernel
theorem dX11_refuse_10 : decode cX11_refuse 10 = .ok (.aload_n 0, 1) := by decide +kernel
theorem dX11_refuse_11 : decode cX11_refuse 11 = .ok (.getfield 77, 3) := by decide +kernel
theorem dX11_refuse_14 : decode cX11_refuse 14 = .ok (.arraylength, 1) := by decide +kernel
theorem dX11_refuse_15 : decode cX11_refuse 15 = .ok (.if_icmp .ge 13, 3) := by decide +kernel
theorem dX11_refuse_18 : decode cX11_refuse 18 = .ok (.aload_n 0, 1) := by decide +kernel
theorem dX11_refuse_19 : decode cX11_refuse 19 = .ok (.getfield 77, 3) := by decide +kernel
theorem dX11_refuse_22 : decode cX11_refuse 22 = .ok (.iload_n 2, 1) := by decide +kernel
theorem dX11_refuse_23 : decode cX11_refuse 23 = .ok (.dup2, 1) := by decide +kernel
theorem dX11_refuse_24 : decode cX11_refuse 24 = .ok (.iaload, 1) := by decide +kernel
theorem dX11_refuse_25 : decode cX11_refuse 25 = .ok (.iconst 1, 1) := by decide +kernel
theorem dX11_refuse_26 : decode cX11_refuse 26 = .ok (.iadd, 1) := by decide +kernel
theorem dX11_refuse_27 : decode cX11_refuse 27 = .ok (.iastore, 1) := by decide +kernel
theorem dX11_refuse_28 : decode cX11_refuse 28 = .ok (.iload_n 1, 1) := by decide +kernel
theorem dX11_refuse_29 : decode cX11_refuse 29 = .ok (.ireturn, 1) := by decide +kernel
theorem dX11_settleAll_0 : decode cX11_settleAll 0 = .ok (.aload_n 0, 1) := by decide +kernel
theorem dX11_settleAll_1 : decode cX11_settleAll 1 = .ok (.getfield 26, 3) := by decide +kernel
theorem dX11_settleAll_4 : decode cX11_settleAll 4 = .ok (.aload_n 0, 1) := by decide +kernel
theorem dX11_settleAll_5 : decode cX11_settleAll 5 = .ok (.getfield 10, 3) := by decide +kernel
theorem dX11_settleAll_8 : decode cX11_settleAll 8 = .ok (.getfield 32, 3) := by decide +kernel
theorem dX11_settleAll_11 : decode cX11_settleAll 11 = .ok (.invokevirtual 256, 3) := by decide +kernel
theorem dX11_settleAll_14 : decode cX11_settleAll 14 = .ok (.aload_n 0, 1) := by decide +kernel
theorem dX11_settleAll_15 : decode cX11_settleAll 15 = .ok (.getfield 48, 3) := by decide +kernel
theorem dX11_settleAll_18 : decode cX11_settleAll 18 = .ok (.invokevirtual 200, 3) := by decide +kernel
theorem dX11_settleAll_21 : decode cX11_settleAll 21 = .ok (.return_, 1) := by decide +kernel
theorem dX12_init_0 : decode cX12_init 0 = .ok (.aload_n 0, 1) := by decide +kernel
theorem dX12_init_1 : decode cX12_init 1 = .ok (.invokespecial 1, 3) := by decide +kernel
theorem dX12_init_4 : decode cX12_init 4 = .ok (.aload_n 0, 1) := by decide +kernel
theorem dX12_init_5 : decode cX12_init 5 = .ok (.sipush 984, 3) := by decide +kernel
theorem dX12_init_8 : decode cX12_init 8 = .ok (.newarray .int, 2) := by decide +kernel
theorem dX12_init_10 : decode cX12_init 10 = .ok (.putfield 7, 3) := by decide +kernel
theorem dX12_init_13 : decode cX12_init 13 = .ok (.aload_n 0, 1) := by decide +kernel
theorem dX12_init_14 : decode cX12_init 14 = .ok (.sipush 7872, 3) := by decide +kernel
theorem dX12_init_17 : decode cX12_init 17 = .ok (.newarray .int, 2) := by decide +kernel
theorem dX12_init_19 : decode cX12_init 19 = .ok (.putfield 13, 3) := by decide +kernel
theorem dX12_init_22 : decode cX12_init 22 = .ok (.aload_n 0, 1) := by decide +kernel
theorem dX12_init_23 : decode cX12_init 23 = .ok (.sipush 984, 3) := by decide +kernel
theorem dX12_init_26 : decode cX12_init 26 = .ok (.newarray .int, 2) := by decide +kernel
theorem dX12_init_28 : decode cX12_init 28 = .ok (.putfield 16, 3) := by decide +kernel
theorem dX12_init_31 : decode cX12_init 31 = .ok (.aload_n 0, 1) := by decide +kernel
theorem dX12_init_32 : decode cX12_init 32 = .ok (.iconst 2, 1) := by decide +kernel
theorem dX12_init_33 : decode cX12_init 33 = .ok (.newarray .int, 2) := by decide +kernel
theorem dX12_init_35 : decode cX12_init 35 = .ok (.dup, 1) := by decide +kernel
theorem dX12_init_36 : decode cX12_init 36 = .ok (.iconst 0, 1) := by decide +kernel
theorem dX12_init_37 : decode cX12_init 37 = .ok (.iconst 0, 1) := by decide +kernel
theorem dX12_init_38 : decode cX12_init 38 = .ok (.iastore, 1) := by decide +kernel
theorem dX12_init_39 : decode cX12_init 39 = .ok (.dup, 1) := by decide +kernel
theorem dX12_init_40 : decode cX12_init 40 = .ok (.iconst 1, 1) := by decide +kernel
theorem dX12_init_41 : decode cX12_init 41 = .ok (.iconst 3, 1) := by decide +kernel
theorem dX12_init_42 : decode cX12_init 42 = .ok (.iastore, 1) := by decide +kernel
theorem dX12_init_43 : decode cX12_init 43 = .ok (.putfield 19, 3) := by decide +kernel
theorem dX12_init_46 : decode cX12_init 46 = .ok (.aload_n 0, 1) := by decide +kernel
theorem dX12_init_47 : decode cX12_init 47 = .ok (.iconst 5, 1) := by decide +kernel
theorem dX12_init_48 : decode cX12_init 48 = .ok (.newarray .int, 2) := by decide +kernel
theorem dX12_init_50 : decode cX12_init 50 = .ok (.putfield 22, 3) := by decide +kernel
theorem dX12_init_53 : decode cX12_init 53 = .ok (.aload_n 0, 1) := by decide +kernel
theorem dX12_init_54 : decode cX12_init 54 = .ok (.iconst 5, 1) := by decide +kernel
theorem dX12_init_55 : decode cX12_init 55 = .ok (.newarray .int, 2) := by decide +kernel
theorem dX12_init_57 : decode cX12_init 57 = .ok (.putfield 25, 3) := by decide +kernel
theorem dX12_init_60 : decode cX12_init 60 = .ok (.aload_n 0, 1) := by decide +kernel
theorem dX12_init_61 : decode cX12_init 61 = .ok (.iconst 3, 1) := by decide +kernel
theorem dX12_init_62 : decode cX12_init 62 = .ok (.newarray .int, 2) := by decide +kernel
theorem dX12_init_64 : decode cX12_init 64 = .ok (.putfield 28, 3) := by decide +kernel
theorem dX12_init_67 : decode cX12_init 67 = .ok (.aload_n 0, 1) := by decide +kernel
theorem dX12_init_68 : decode cX12_init 68 = .ok (.bipush 120, 2) := by decide +kernel
theorem dX12_init_70 : decode cX12_init 70 = .ok (.newarray .int, 2) := by decide +kernel
theorem dX12_init_72 : decode cX12_init 72 = .ok (.putfield 31, 3) := by decide +kernel
theorem dX12_init_75 : decode cX12_init 75 = .ok (.aload_n 0, 1) := by decide +kernel
theorem dX12_init_76 : decode cX12_init 76 = .ok (.bipush 120, 2) := by decide +kernel
theorem dX12_init_78 : decode cX12_init 78 = .ok (.newarray .int, 2) := by decide +kernel
theorem dX12_init_80 : decode cX12_init 80 = .ok (.putfield 34, 3) := by decide +kernel
theorem dX12_init_83 : decode cX12_init 83 = .ok (.aload_n 0, 1) := by decide +kernel
theorem dX12_init_84 : decode cX12_init 84 = .ok (.bipush 120, 2) := by decide +kernel
theorem dX12_init_86 : decode cX12_init 86 = .ok (.newarray .int, 2) := by decide +kernel
theorem dX12_init_88 : decode cX12_init 88 = .ok (.putfield 37, 3) := by decide +kernel
theorem dX12_init_91 : decode cX12_init 91 = .ok (.aload_n 0, 1) := by decide +kernel
theorem dX12_init_92 : decode cX12_init 92 = .ok (.bipush 120, 2) := by decide +kernel
theorem dX12_init_94 : decode cX12_init 94 = .ok (.newarray .int, 2) := by decide +kernel
theorem dX12_init_96 : decode cX12_init 96 = .ok (.putfield 40, 3) := by decide +kernel
theorem dX12_init_99 : decode cX12_init 99 = .ok (.aload_n 0, 1) := by decide +kernel
theorem dX12_init_100 : decode cX12_init 100 = .ok (.bipush 120, 2) := by decide +kernel
theorem dX12_init_102 : decode cX12_init 102 = .ok (.newarray .int, 2) := by decide +kernel
theorem dX12_init_104 : decode cX12_init 104 = .ok (.putfield 43, 3) := by decide +kernel
theorem dX12_init_107 : decode cX12_init 107 = .ok (.aload_n 0, 1) := by decide +kernel
theorem dX12_init_108 : decode cX12_init 108 = .ok (.bipush 120, 2) := by decide +kernel
theorem dX12_init_110 : decode cX12_init 110 = .ok (.newarray .int, 2) := by decide +kernel
theorem dX12_init_112 : decode cX12_init 112 = .ok (.putfield 46, 3) := by decide +kernel
theorem dX12_init_115 : decode cX12_init 115 = .ok (.aload_n 0, 1) := by decide +kernel
theorem dX12_init_116 : decode cX12_init 116 = .ok (.iconst 4, 1) := by decide +kernel
theorem dX12_init_117 : decode cX12_init 117 = .ok (.newarray .int, 2) := by decide +kernel
theorem dX12_init_119 : decode cX12_init 119 = .ok (.putfield 49, 3) := by decide +kernel
theorem dX12_init_122 : decode cX12_init 122 = .ok (.aload_n 0, 1) := by decide +kernel
