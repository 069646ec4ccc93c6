theorem dX4_stands_88 : decode cX4_stands 88 = .ok (.invokestatic 153, 3) := by decide +kernel
theorem dX4_stands_91 : decode cX4_stands 91 = .ok (.istore 4, 2) := by decide +kernel
theorem dX4_stands_93 : decode cX4_stands 93 = .ok (.aload_n 0, 1) := by decide +kernel
theorem dX4_stands_94 : decode cX4_stands 94 = .ok (.getfield 28, 3) := by decide +kernel
theorem dX4_stands_97 : decode cX4_stands 97 = .ok (.iload_n 3, 1) := by decide +kernel
theorem dX4_stands_98 : decode cX4_stands 98 = .ok (.iload 4, 2) := by decide +kernel
theorem dX4_stands_100 : decode cX4_stands 100 = .ok (.ifCond .ge 7, 3) := by decide +kernel
theorem dX4_stands_103 : decode cX4_stands 103 = .ok (.iconst (-1), 1) := by decide +kernel
theorem dX4_stands_104 : decode cX4_stands 104 = .ok (.goto 13, 3) := by decide +kernel
theorem dX4_stands_107 : decode cX4_stands 107 = .ok (.aload_n 0, 1) := by decide +kernel
theorem dX4_stands_108 : decode cX4_stands 108 = .ok (.getfield 38, 3) := by decide +kernel
theorem dX4_stands_111 : decode cX4_stands 111 = .ok (.getfield 157, 3) := by decide +kernel
theorem dX4_stands_114 : decode cX4_stands 114 = .ok (.iload 4, 2) := by decide +kernel
theorem dX4_stands_116 : decode cX4_stands 116 = .ok (.iaload, 1) := by decide +kernel
theorem dX4_stands_117 : decode cX4_stands 117 = .ok (.iastore, 1) := by decide +kernel
theorem dX4_stands_118 : decode cX4_stands 118 = .ok (.aload_n 0, 1) := by decide +kernel
theorem dX4_stands_119 : decode cX4_stands 119 = .ok (.getfield 28, 3) := by decide +kernel
theorem dX4_stands_122 : decode cX4_stands 122 = .ok (.iload_n 3, 1) := by decide +kernel
theorem dX4_stands_123 : decode cX4_stands 123 = .ok (.iaload, 1) := by decide +kernel
theorem dX4_stands_124 : decode cX4_stands 124 = .ok (.iconst (-1), 1) := by decide +kernel
theorem dX4_stands_125 : decode cX4_stands 125 = .ok (.if_icmp .ne 5, 3) := by decide +kernel
theorem dX4_stands_128 : decode cX4_stands 128 = .ok (.iconst 0, 1) := by decide +kernel
theorem dX4_stands_129 : decode cX4_stands 129 = .ok (.ireturn, 1) := by decide +kernel
theorem dX4_stands_130 : decode cX4_stands 130 = .ok (.iinc 3 1, 3) := by decide +kernel
theorem dX4_stands_133 : decode cX4_stands 133 = .ok (.goto (-131), 3) := by decide +kernel
theorem dX4_stands_136 : decode cX4_stands 136 = .ok (.iconst 1, 1) := by decide +kernel
theorem dX4_stands_137 : decode cX4_stands 137 = .ok (.ireturn, 1) := by decide +kernel
theorem dX4_chosenFor_0 : decode cX4_chosenFor 0 = .ok (.iload_n 1, 1) := by decide +kernel
theorem dX4_chosenFor_1 : decode cX4_chosenFor 1 = .ok (.ifCond .lt 17, 3) := by decide +kernel
theorem dX4_chosenFor_4 : decode cX4_chosenFor 4 = .ok (.iload_n 1, 1) := by decide +kernel
theorem dX4_chosenFor_5 : decode cX4_chosenFor 5 = .ok (.iconst 3, 1) := by decide +kernel
theorem dX4_chosenFor_6 : decode cX4_chosenFor 6 = .ok (.if_icmp .ge 12, 3) := by decide +kernel
theorem dX4_chosenFor_9 : decode cX4_chosenFor 9 = .ok (.aload_n 0, 1) := by decide +kernel
theorem dX4_chosenFor_10 : decode cX4_chosenFor 10 = .ok (.getfield 31, 3) := by decide +kernel
theorem dX4_chosenFor_13 : decode cX4_chosenFor 13 = .ok (.iload_n 1, 1) := by decide +kernel
theorem dX4_chosenFor_14 : decode cX4_chosenFor 14 = .ok (.iaload, 1) := by decide +kernel
theorem dX4_chosenFor_15 : decode cX4_chosenFor 15 = .ok (.goto 4, 3) := by decide +kernel
theorem dX4_chosenFor_18 : decode cX4_chosenFor 18 = .ok (.iconst (-1), 1) := by decide +kernel
theorem dX4_chosenFor_19 : decode cX4_chosenFor 19 = .ok (.ireturn, 1) := by decide +kernel
theorem dX4_note_0 : decode cX4_note 0 = .ok (.aload_n 0, 1) := by decide +kernel
theorem dX4_note_1 : decode cX4_note 1 = .ok (.aload_n 1, 1) := by decide +kernel
theorem dX4_note_2 : decode cX4_note 2 = .ok (.getfield 68, 3) := by decide +kernel
theorem dX4_note_5 : decode cX4_note 5 = .ok (.iconst 1, 1) := by decide +kernel
theorem dX4_note_6 : decode cX4_note 6 = .ok (.isub, 1) := by decide +kernel
theorem dX4_note_7 : decode cX4_note 7 = .ok (.invokevirtual 144, 3) := by decide +kernel
theorem dX4_note_10 : decode cX4_note 10 = .ok (.istore_n 2, 1) := by decide +kernel
theorem dX4_note_11 : decode cX4_note 11 = .ok (.aload_n 0, 1) := by decide +kernel
theorem dX4_note_12 : decode cX4_note 12 = .ok (.iload_n 2, 1) := by decide +kernel
theorem dX4_note_13 : decode cX4_note 13 = .ok (.invokevirtual 160, 3) := by decide +kernel
theorem dX4_note_16 : decode cX4_note 16 = .ok (.istore_n 3, 1) := by decide +kernel
theorem dX4_note_17 : decode cX4_note 17 = .ok (.iconst 0, 1) := by decide +kernel
theorem dX4_note_18 : decode cX4_note 18 = .ok (.istore 4, 2) := by decide +kernel
theorem dX4_note_20 : decode cX4_note 20 = .ok (.iload 4, 2) := by decide +kernel
theorem dX4_note_22 : decode cX4_note 22 = .ok (.iconst 3, 1) := by decide +kernel
theorem dX4_note_23 : decode cX4_note 23 = .ok (.if_icmp .ge 25, 3) := by decide +kernel
theorem dX4_note_26 : decode cX4_note 26 = .ok (.iload_n 3, 1) := by decide +kernel
theorem dX4_note_27 : decode cX4_note 27 = .ok (.aload_n 0, 1) := by decide +kernel
theorem dX4_note_28 : decode cX4_note 28 = .ok (.aload_n 0, 1) := by decide +kernel
theorem dX4_note_29 : decode cX4_note 29 = .ok (.getfield 31, 3) := by decide +kernel
theorem dX4_note_32 : decode cX4_note 32 = .ok (.iload 4, 2) := by decide +kernel
theorem dX4_note_34 : decode cX4_note 34 = .ok (.iaload, 1) := by decide +kernel
theorem dX4_note_35 : decode cX4_note 35 = .ok (.invokevirtual 160, 3) := by decide +kernel
theorem dX4_note_38 : decode cX4_note 38 = .ok (.invokestatic 163, 3) := by decide +kernel
theorem dX4_note_41 : decode cX4_note 41 = .ok (.istore_n 3, 1) := by decide +kernel
theorem dX4_note_42 : decode cX4_note 42 = .ok (.iinc 4 1, 3) := by decide +kernel
theorem dX4_note_45 : decode cX4_note 45 = .ok (.goto (-25), 3) := by decide +kernel
theorem dX4_note_48 : decode cX4_note 48 = .ok (.aload_n 0, 1) := by decide +kernel
theorem dX4_note_49 : decode cX4_note 49 = .ok (.getfield 14, 3) := by decide +kernel
theorem dX4_note_52 : decode cX4_note 52 = .ok (.aload_n 0, 1) := by decide +kernel
theorem dX4_note_53 : decode cX4_note 53 = .ok (.getfield 20, 3) := by decide +kernel
theorem dX4_note_56 : decode cX4_note 56 = .ok (.aload_n 0, 1) := by decide +kernel
theorem dX4_note_57 : decode cX4_note 57 = .ok (.getfield 31, 3) := by decide +kernel
theorem dX4_note_60 : decode cX4_note 60 = .ok (.iconst 0, 1) := by decide +kernel
theorem dX4_note_61 : decode cX4_note 61 = .ok (.iaload, 1) := by decide +kernel
theorem dX4_note_62 : decode cX4_note 62 = .ok (.aload_n 0, 1) := by decide +kernel
theorem dX4_note_63 : decode cX4_note 63 = .ok (.getfield 31, 3) := by decide +kernel
theorem dX4_note_66 : decode cX4_note 66 = .ok (.iconst 1, 1) := by decide +kernel
theorem dX4_note_67 : decode cX4_note 67 = .ok (.iaload, 1) := by decide +kernel
theorem dX4_note_68 : decode cX4_note 68 = .ok (.aload_n 0, 1) := by decide +kernel
theorem dX4_note_69 : decode cX4_note 69 = .ok (.getfield 31, 3) := by decide +kernel
theorem dX4_note_72 : decode cX4_note 72 = .ok (.iconst 2, 1) := by decide +kernel
theorem dX4_note_73 : decode cX4_note 73 = .ok (.iaload, 1) := by decide +kernel
theorem dX4_note_74 : decode cX4_note 74 = .ok (.iload_n 2, 1) := by decide +kernel
theorem dX4_note_75 : decode cX4_note 75 = .ok (.iload_n 3, 1) := by decide +kernel
theorem dX4_note_76 : decode cX4_note 76 = .ok (.iconst 1, 1) := by decide +kernel
theorem dX4_note_77 : decode cX4_note 77 = .ok (.iadd, 1) := by decide +kernel
theorem dX4_note_78 : decode cX4_note 78 = .ok (.invokevirtual 166, 3) := by decide +kernel
theorem dX4_note_81 : decode cX4_note 81 = .ok (.return_, 1) := by decide +kernel
theorem dX4_leastOf_0 : decode cX4_leastOf 0 = .ok (.iload_n 1, 1) := by decide +kernel
theorem dX4_leastOf_1 : decode cX4_leastOf 1 = .ok (.ifCond .lt 18, 3) := by decide +kernel
theorem dX4_leastOf_4 : decode cX4_leastOf 4 = .ok (.iload_n 1, 1) := by decide +kernel
theorem dX4_leastOf_5 : decode cX4_leastOf 5 = .ok (.bipush 50, 2) := by decide +kernel
theorem dX4_leastOf_7 : decode cX4_leastOf 7 = .ok (.if_icmp .ge 12, 3) := by decide +kernel
theorem dX4_leastOf_10 : decode cX4_leastOf 10 = .ok (.aload_n 0, 1) := by decide +kernel
theorem dX4_leastOf_11 : decode cX4_leastOf 11 = .ok (.getfield 24, 3) := by decide +kernel
theorem dX4_leastOf_14 : decode cX4_leastOf 14 = .ok (.iload_n 1, 1) := by decide +kernel
theorem dX4_leastOf_15 : decode cX4_leastOf 15 = .ok (.iaload, 1) := by decide +kernel
theorem dX4_leastOf_16 : decode cX4_leastOf 16 = .ok (.goto 4, 3) := by decide +kernel
theorem dX4_leastOf_19 : decode cX4_leastOf 19 = .ok (.iconst 0, 1) := by decide +kernel
theorem dX4_leastOf_20 : decode cX4_leastOf 20 = .ok (.ireturn, 1) := by decide +kernel
theorem dX5_init_0 : decode cX5_init 0 = .ok (.aload_n 0, 1) := by decide +kernel
theorem dX5_init_1 : decode cX5_init 1 = .ok (.invokespecial 3, 3) := by decide +kernel
theorem dX5_init_4 : decode cX5_init 4 = .ok (.aload_n 0, 1) := by decide +kernel
theorem dX5_init_5 : decode cX5_init 5 = .ok (.sipush 2604, 3) := by decide +kernel
theorem dX5_init_8 : decode cX5_init 8 = .ok (.newarray .int, 2) := by decide +kernel
theorem dX5_init_10 : decode cX5_init 10 = .ok (.putfield 11, 3) := by decide +kernel
theorem dX5_init_13 : decode cX5_init 13 = .ok (.aload_n 0, 1) := by decide +kernel
theorem dX5_init_14 : decode cX5_init 14 = .ok (.bipush 50, 2) := by decide +kernel
theorem dX5_init_16 : decode cX5_init 16 = .ok (.newarray .int, 2) := by decide +kernel
theorem dX5_init_18 : decode cX5_init 18 = .ok (.putfield 15, 3) := by decide +kernel
theorem dX5_init_21 : decode cX5_init 21 = .ok (.aload_n 0, 1) := by decide +kernel
theorem dX5_init_22 : decode cX5_init 22 = .ok (.iconst 0, 1) := by decide +kernel
theorem dX5_init_23 : decode cX5_init 23 = .ok (.putfield 18, 3) := by decide +kernel
theorem dX5_init_26 : decode cX5_init 26 = .ok (.aload_n 0, 1) := by decide +kernel
theorem dX5_init_27 : decode cX5_init 27 = .ok (.bipush 7, 2) := by decide +kernel
theorem dX5_init_29 : decode cX5_init 29 = .ok (.newarray .long, 2) := by decide +kernel
theorem dX5_init_31 : decode cX5_init 31 = .ok (.putfield 22, 3) := by decide +kernel
theorem dX5_init_34 : decode cX5_init 34 = .ok (.aload_n 0, 1) := by decide +kernel
theorem dX5_init_35 : decode cX5_init 35 = .ok (.lconst 0, 1) := by decide +kernel
theorem dX5_init_36 : decode cX5_init 36 = .ok (.putfield 26, 3) := by decide +kernel
theorem dX5_init_39 : decode cX5_init 39 = .ok (.aload_n 0, 1) := by decide +kernel
theorem dX5_init_40 : decode cX5_init 40 = .ok (.bipush 50, 2) := by decide +kernel
theorem dX5_init_42 : decode cX5_init 42 = .ok (.newarray .long, 2) := by decide +kernel
theorem dX5_init_44 : decode cX5_init 44 = .ok (.putfield 30, 3) := by decide +kernel
theorem dX5_init_47 : decode cX5_init 47 = .ok (.aload_n 0, 1) := by decide +kernel
theorem dX5_init_48 : decode cX5_init 48 = .ok (.bipush 50, 2) := by decide +kernel
theorem dX5_init_50 : decode cX5_init 50 = .ok (.newarray .long, 2) := by decide +kernel
theorem dX5_init_52 : decode cX5_init 52 = .ok (.putfield 33, 3) := by decide +kernel
theorem dX5_init_55 : decode cX5_init 55 = .ok (.aload_n 0, 1) := by decide +kernel
theorem dX5_init_56 : decode cX5_init 56 = .ok (.bipush 50, 2) := by decide +kernel
theorem dX5_init_58 : decode cX5_init 58 = .ok (.newarray .int, 2) := by decide +kernel
theorem dX5_init_60 : decode cX5_init 60 = .ok (.putfield 36, 3) := by decide +kernel
theorem dX5_init_63 : decode cX5_init 63 = .ok (.aload_n 0, 1) := by decide +kernel
theorem dX5_init_64 : decode cX5_init 64 = .ok (.getfield 11, 3) := by decide +kernel
theorem dX5_init_67 : decode cX5_init 67 = .ok (.iconst (-1), 1) := by decide +kernel
theorem dX5_init_68 : decode cX5_init 68 = .ok (.invokestatic 39, 3) := by decide +kernel
theorem dX5_init_71 : decode cX5_init 71 = .ok (.return_, 1) := by decide +kernel
theorem dX5_keyOf_0 : decode cX5_keyOf 0 = .ok (.iload_n 0, 1) := by decide +kernel
theorem dX5_keyOf_1 : decode cX5_keyOf 1 = .ok (.ifCond .lt 9, 3) := by decide +kernel
theorem dX5_keyOf_4 : decode cX5_keyOf 4 = .ok (.iload_n 0, 1) := by decide +kernel
theorem dX5_keyOf_5 : decode cX5_keyOf 5 = .ok (.bipush 6, 2) := by decide +kernel
theorem dX5_keyOf_7 : decode cX5_keyOf 7 = .ok (.if_icmp .le 5, 3) := by decide +kernel
theorem dX5_keyOf_10 : decode cX5_keyOf 10 = .ok (.iconst (-1), 1) := by decide +kernel
theorem dX5_keyOf_11 : decode cX5_keyOf 11 = .ok (.ireturn, 1) := by decide +kernel
theorem dX5_keyOf_12 : decode cX5_keyOf 12 = .ok (.iload_n 0, 1) := by decide +kernel
theorem dX5_keyOf_13 : decode cX5_keyOf 13 = .ok (.iconst 4, 1) := by decide +kernel
theorem dX5_keyOf_14 : decode cX5_keyOf 14 = .ok (.if_icmp .ge 5, 3) := by decide +kernel
theorem dX5_keyOf_17 : decode cX5_keyOf 17 = .ok (.iload_n 0, 1) := by decide +kernel
theorem dX5_keyOf_18 : decode cX5_keyOf 18 = .ok (.ireturn, 1) := by decide +kernel
theorem dX5_keyOf_19 : decode cX5_keyOf 19 = .ok (.iload_n 1, 1) := by decide +kernel
theorem dX5_keyOf_20 : decode cX5_keyOf 20 = .ok (.ifCond .lt 9, 3) := by decide +kernel
theorem dX5_keyOf_23 : decode cX5_keyOf 23 = .ok (.iload_n 1, 1) := by decide +kernel
theorem dX5_keyOf_24 : decode cX5_keyOf 24 = .ok (.bipush 50, 2) := by decide +kernel
theorem dX5_keyOf_26 : decode cX5_keyOf 26 = .ok (.if_icmp .lt 5, 3) := by decide +kernel
theorem dX5_keyOf_29 : decode cX5_keyOf 29 = .ok (.iconst (-1), 1) := by decide +kernel
theorem dX5_keyOf_30 : decode cX5_keyOf 30 = .ok (.ireturn, 1) := by decide +kernel
theorem dX5_keyOf_31 : decode cX5_keyOf 31 = .ok (.iload_n 0, 1) := by decide +kernel
theorem dX5_keyOf_32 : decode cX5_keyOf 32 = .ok (.bipush 6, 2) := by decide +kernel
theorem dX5_keyOf_34 : decode cX5_keyOf 34 = .ok (.if_icmp .ge 14, 3) := by decide +kernel
theorem dX5_keyOf_37 : decode cX5_keyOf 37 = .ok (.iconst 4, 1) := by decide +kernel
theorem dX5_keyOf_38 : decode cX5_keyOf 38 = .ok (.iload_n 0, 1) := by decide +kernel
theorem dX5_keyOf_39 : decode cX5_keyOf 39 = .ok (.iconst 4, 1) := by decide +kernel
theorem dX5_keyOf_40 : decode cX5_keyOf 40 = .ok (.isub, 1) := by decide +kernel
theorem dX5_keyOf_41 : decode cX5_keyOf 41 = .ok (.bipush 50, 2) := by decide +kernel
theorem dX5_keyOf_43 : decode cX5_keyOf 43 = .ok (.imul, 1) := by decide +kernel
theorem dX5_keyOf_44 : decode cX5_keyOf 44 = .ok (.iadd, 1) := by decide +kernel
theorem dX5_keyOf_45 : decode cX5_keyOf 45 = .ok (.iload_n 1, 1) := by decide +kernel
theorem dX5_keyOf_46 : decode cX5_keyOf 46 = .ok (.iadd, 1) := by decide +kernel
theorem dX5_keyOf_47 : decode cX5_keyOf 47 = .ok (.ireturn, 1) := by decide +kernel
theorem dX5_keyOf_48 : decode cX5_keyOf 48 = .ok (.iload_n 2, 1) := by decide +kernel
theorem dX5_keyOf_49 : decode cX5_keyOf 49 = .ok (.ifCond .lt 9, 3) := by decide +kernel
theorem dX5_keyOf_52 : decode cX5_keyOf 52 = .ok (.iload_n 2, 1) := by decide +kernel
theorem dX5_keyOf_53 : decode cX5_keyOf 53 = .ok (.bipush 50, 2) := by decide +kernel
theorem dX5_keyOf_55 : decode cX5_keyOf 55 = .ok (.if_icmp .lt 5, 3) := by decide +kernel
theorem dX5_keyOf_58 : decode cX5_keyOf 58 = .ok (.iconst (-1), 1) := by decide +kernel
theorem dX5_keyOf_59 : decode cX5_keyOf 59 = .ok (.ireturn, 1) := by decide +kernel
theorem dX5_keyOf_60 : decode cX5_keyOf 60 = .ok (.iconst 4, 1) := by decide +kernel
theorem dX5_keyOf_61 : decode cX5_keyOf 61 = .ok (.iconst 2, 1) := by decide +kernel
theorem dX5_keyOf_62 : decode cX5_keyOf 62 = .ok (.iload_n 1, 1) := by decide +kernel
theorem dX5_keyOf_63 : decode cX5_keyOf 63 = .ok (.iadd, 1) := by decide +kernel
theorem dX5_keyOf_64 : decode cX5_keyOf 64 = .ok (.bipush 50, 2) := by decide +kernel
theorem dX5_keyOf_66 : decode cX5_keyOf 66 = .ok (.imul, 1) := by decide +kernel
theorem dX5_keyOf_67 : decode cX5_keyOf 67 = .ok (.iadd, 1) := by decide +kernel
theorem dX5_keyOf_68 : decode cX5_keyOf 68 = .ok (.iload_n 2, 1) := by decide +kernel
theorem dX5_keyOf_69 : decode cX5_keyOf 69 = .ok (.iadd, 1) := by decide +kernel
theorem dX5_keyOf_70 : decode cX5_keyOf 70 = .ok (.ireturn, 1) := by decide +kernel
theorem dX5_settle_0 : decode cX5_settle 0 = .ok (.iconst 1, 1) := by decide +kernel
theorem dX5_settle_1 : decode cX5_settle 1 = .ok (.istore_n 2, 1) := by decide +kernel
theorem dX5_settle_2 : decode cX5_settle 2 = .ok (.iconst 0, 1) := by decide +kernel
theorem dX5_settle_3 : decode cX5_settle 3 = .ok (.istore_n 3, 1) := by decide +kernel
theorem dX5_settle_4 : decode cX5_settle 4 = .ok (.iload_n 2, 1) := by decide +kernel
theorem dX5_settle_5 : decode cX5_settle 5 = .ok (.ifCond .eq 21, 3) := by decide +kernel
theorem dX5_settle_8 : decode cX5_settle 8 = .ok (.iload_n 3, 1) := by decide +kernel
theorem dX5_settle_9 : decode cX5_settle 9 = .ok (.bipush 50, 2) := by decide +kernel
theorem dX5_settle_11 : decode cX5_settle 11 = .ok (.if_icmp .gt 15, 3) := by decide +kernel
theorem dX5_settle_14 : decode cX5_settle 14 = .ok (.aload_n 0, 1) := by decide +kernel
theorem dX5_settle_15 : decode cX5_settle 15 = .ok (.aload_n 1, 1) := by decide +kernel
theorem dX5_settle_16 : decode cX5_settle 16 = .ok (.invokevirtual 45, 3) := by decide +kernel
theorem dX5_settle_19 : decode cX5_settle 19 = .ok (.istore_n 2, 1) := by decide +kernel
theorem dX5_settle_20 : decode cX5_settle 20 = .ok (.iinc 3 1, 3) := by decide +kernel
theorem dX5_settle_23 : decode cX5_settle 23 = .ok (.goto (-19), 3) := by decide +kernel
theorem dX5_settle_26 : decode cX5_settle 26 = .ok (.return_, 1) := by decide +kernel
theorem dX5_sweep_0 : decode cX5_sweep 0 = .ok (.aload_n 0, 1) := by decide +kernel
theorem dX5_sweep_1 : decode cX5_sweep 1 = .ok (.invokevirtual 49, 3) := by decide +kernel
theorem dX5_sweep_4 : decode cX5_sweep 4 = .ok (.iconst 0, 1) := by decide +kernel
theorem dX5_sweep_5 : decode cX5_sweep 5 = .ok (.istore_n 2, 1) := by decide +kernel
theorem dX5_sweep_6 : decode cX5_sweep 6 = .ok (.iconst 0, 1) := by decide +kernel
theorem dX5_sweep_7 : decode cX5_sweep 7 = .ok (.istore_n 3, 1) := by decide +kernel
theorem dX5_sweep_8 : decode cX5_sweep 8 = .ok (.iload_n 3, 1) := by decide +kernel
theorem dX5_sweep_9 : decode cX5_sweep 9 = .ok (.aload_n 1, 1) := by decide +kernel
theorem dX5_sweep_10 : decode cX5_sweep 10 = .ok (.getfield 52, 3) := by decide +kernel
theorem dX5_sweep_13 : decode cX5_sweep 13 = .ok (.if_icmp .ge 91, 3) := by decide +kernel
theorem dX5_sweep_16 : decode cX5_sweep 16 = .ok (.aload_n 1, 1) := by decide +kernel
theorem dX5_sweep_17 : decode cX5_sweep 17 = .ok (.getfield 57, 3) := by decide +kernel
theorem dX5_sweep_20 : decode cX5_sweep 20 = .ok (.iload_n 3, 1) := by decide +kernel
theorem dX5_sweep_21 : decode cX5_sweep 21 = .ok (.iaload, 1) := by decide +kernel
theorem dX5_sweep_22 : decode cX5_sweep 22 = .ok (.aload_n 1, 1) := by decide +kernel
theorem dX5_sweep_23 : decode cX5_sweep 23 = .ok (.aload_n 1, 1) := by decide +kernel
theorem dX5_sweep_24 : decode cX5_sweep 24 = .ok (.getfield 60, 3) := by decide +kernel
theorem dX5_sweep_27 : decode cX5_sweep 27 = .ok (.iload_n 3, 1) := by decide +kernel
theorem dX5_sweep_28 : decode cX5_sweep 28 = .ok (.iaload, 1) := by decide +kernel
theorem dX5_sweep_29 : decode cX5_sweep 29 = .ok (.invokevirtual 63, 3) := by decide +kernel
theorem dX5_sweep_32 : decode cX5_sweep 32 = .ok (.aload_n 1, 1) := by decide +kernel
theorem dX5_sweep_33 : decode cX5_sweep 33 = .ok (.aload_n 1, 1) := by decide +kernel
theorem dX5_sweep_34 : decode cX5_sweep 34 = .ok (.getfield 67, 3) := by decide +kernel
theorem dX5_sweep_37 : decode cX5_sweep 37 = .ok (.iload_n 3, 1) := by decide +kernel
theorem dX5_sweep_38 : decode cX5_sweep 38 = .ok (.iaload, 1) := by decide +kernel
theorem dX5_sweep_39 : decode cX5_sweep 39 = .ok (.invokevirtual 63, 3) := by decide +kernel
theorem dX5_sweep_42 : decode cX5_sweep 42 = .ok (.invokestatic 70, 3) := by decide +kernel
theorem dX5_sweep_45 : decode cX5_sweep 45 = .ok (.istore 4, 2) := by decide +kernel
theorem dX5_sweep_47 : decode cX5_sweep 47 = .ok (.iload 4, 2) := by decide +kernel
theorem dX5_sweep_49 : decode cX5_sweep 49 = .ok (.ifCond .ge 6, 3) := by decide +kernel
theorem dX5_sweep_52 : decode cX5_sweep 52 = .ok (.goto 46, 3) := by decide +kernel
theorem dX5_sweep_55 : decode cX5_sweep 55 = .ok (.aload_n 0, 1) := by decide +kernel
theorem dX5_sweep_56 : decode cX5_sweep 56 = .ok (.getfield 11, 3) := by decide +kernel
theorem dX5_sweep_59 : decode cX5_sweep 59 = .ok (.iload 4, 2) := by decide +kernel
theorem dX5_sweep_61 : decode cX5_sweep 61 = .ok (.iaload, 1) := by decide +kernel
theorem dX5_sweep_62 : decode cX5_sweep 62 = .ok (.iconst (-1), 1) := by decide +kernel
theorem dX5_sweep_63 : decode cX5_sweep 63 = .ok (.if_icmp .ne 18, 3) := by decide +kernel
theorem dX5_sweep_66 : decode cX5_sweep 66 = .ok (.aload_n 0, 1) := by decide +kernel
theorem dX5_sweep_67 : decode cX5_sweep 67 = .ok (.iload 4, 2) := by decide +kernel
theorem dX5_sweep_69 : decode cX5_sweep 69 = .ok (.aload_n 1, 1) := by decide +kernel
theorem dX5_sweep_70 : decode cX5_sweep 70 = .ok (.getfield 74, 3) := by decide +kernel
theorem dX5_sweep_73 : decode cX5_sweep 73 = .ok (.iload_n 3, 1) := by decide +kernel
theorem dX5_sweep_74 : decode cX5_sweep 74 = .ok (.iaload, 1) := by decide +kernel
theorem dX5_sweep_75 : decode cX5_sweep 75 = .ok (.invokevirtual 77, 3) := by decide +kernel
theorem dX5_sweep_78 : decode cX5_sweep 78 = .ok (.goto 20, 3) := by decide +kernel
theorem dX5_sweep_81 : decode cX5_sweep 81 = .ok (.aload_n 1, 1) := by decide +kernel
theorem dX5_sweep_82 : decode cX5_sweep 82 = .ok (.aload_n 0, 1) := by decide +kernel
theorem dX5_sweep_83 : decode cX5_sweep 83 = .ok (.getfield 11, 3) := by decide +kernel
theorem dX5_sweep_86 : decode cX5_sweep 86 = .ok (.iload 4, 2) := by decide +kernel
theorem dX5_sweep_88 : decode cX5_sweep 88 = .ok (.iaload, 1) := by decide +kernel
theorem dX5_sweep_89 : decode cX5_sweep 89 = .ok (.iload_n 3, 1) := by decide +kernel
theorem dX5_sweep_90 : decode cX5_sweep 90 = .ok (.invokevirtual 81, 3) := by decide +kernel
theorem dX5_sweep_93 : decode cX5_sweep 93 = .ok (.ifCond .eq 5, 3) := by decide +kernel
theorem dX5_sweep_96 : decode cX5_sweep 96 = .ok (.iconst 1, 1) := by decide +kernel
theorem dX5_sweep_97 : decode cX5_sweep 97 = .ok (.istore_n 2, 1) := by decide +kernel
theorem dX5_sweep_98 : decode cX5_sweep 98 = .ok (.iinc 3 1, 3) := by decide +kernel
theorem dX5_sweep_101 : decode cX5_sweep 101 = .ok (.goto (-93), 3) := by decide +kernel
theorem dX5_sweep_104 : decode cX5_sweep 104 = .ok (.iload_n 2, 1) := by decide +kernel
theorem dX5_sweep_105 : decode cX5_sweep 105 = .ok (.ireturn, 1) := by decide +kernel
theorem dX5_emptyPlaces_0 : decode cX5_emptyPlaces 0 = .ok (.iconst 0, 1) := by decide +kernel
theorem dX5_emptyPlaces_1 : decode cX5_emptyPlaces 1 = .ok (.istore_n 1, 1) := by decide +kernel
theorem dX5_emptyPlaces_2 : decode cX5_emptyPlaces 2 = .ok (.iload_n 1, 1) := by decide +kernel
theorem dX5_emptyPlaces_3 : decode cX5_emptyPlaces 3 = .ok (.aload_n 0, 1) := by decide +kernel
theorem dX5_emptyPlaces_4 : decode cX5_emptyPlaces 4 = .ok (.getfield 18, 3) := by decide +kernel
theorem dX5_emptyPlaces_7 : decode cX5_emptyPlaces 7 = .ok (.if_icmp .ge 21, 3) := by decide +kernel
theorem dX5_emptyPlaces_10 : decode cX5_emptyPlaces 10 = .ok (.aload_n 0, 1) := by decide +kernel
theorem dX5_emptyPlaces_11 : decode cX5_emptyPlaces 11 = .ok (.getfield 11, 3) := by decide +kernel
theorem dX5_emptyPlaces_14 : decode cX5_emptyPlaces 14 = .ok (.aload_n 0, 1) := by decide +kernel
theorem dX5_emptyPlaces_15 : decode cX5_emptyPlaces 15 = .ok (.getfield 15, 3) := by decide +kernel
theorem dX5_emptyPlaces_18 : decode cX5_emptyPlaces 18 = .ok (.iload_n 1, 1) := by decide +kernel
theorem dX5_emptyPlaces_19 : decode cX5_emptyPlaces 19 = .ok (.iaload, 1) := by decide +kernel
theorem dX5_emptyPlaces_20 : decode cX5_emptyPlaces 20 = .ok (.iconst (-1), 1) := by decide +kernel
theorem dX5_emptyPlaces_21 : decode cX5_emptyPlaces 21 = .ok (.iastore, 1) := by decide +kernel
theorem dX5_emptyPlaces_22 : decode cX5_emptyPlaces 22 = .ok (.iinc 1 1, 3) := by decide +kernel
theorem dX5_emptyPlaces_25 : decode cX5_emptyPlaces 25 = .ok (.goto (-23), 3) := by decide +kernel
theorem dX5_emptyPlaces_28 : decode cX5_emptyPlaces 28 = .ok (.aload_n 0, 1) := by decide +kernel
theorem dX5_emptyPlaces_29 : decode cX5_emptyPlaces 29 = .ok (.iconst 0, 1) := by decide +kernel
theorem dX5_emptyPlaces_30 : decode cX5_emptyPlaces 30 = .ok (.putfield 18, 3) := by decide +kernel
theorem dX5_emptyPlaces_33 : decode cX5_emptyPlaces 33 = .ok (.return_, 1) := by decide +kernel
theorem dX5_tellPlace_0 : decode cX5_tellPlace 0 = .ok (.aload_n 0, 1) := by decide +kernel
theorem dX5_tellPlace_1 : decode cX5_tellPlace 1 = .ok (.getfield 18, 3) := by decide +kernel
theorem dX5_tellPlace_4 : decode cX5_tellPlace 4 = .ok (.bipush 50, 2) := by decide +kernel
theorem dX5_tellPlace_6 : decode cX5_tellPlace 6 = .ok (.if_icmp .ge 30, 3) := by decide +kernel
theorem dX5_tellPlace_9 : decode cX5_tellPlace 9 = .ok (.aload_n 0, 1) := by decide +kernel
theorem dX5_tellPlace_10 : decode cX5_tellPlace 10 = .ok (.getfield 11, 3) := by decide +kernel
theorem dX5_tellPlace_13 : decode cX5_tellPlace 13 = .ok (.iload_n 1, 1) := by decide +kernel
theorem dX5_tellPlace_14 : decode cX5_tellPlace 14 = .ok (.iload_n 2, 1) := by decide +kernel
theorem dX5_tellPlace_15 : decode cX5_tellPlace 15 = .ok (.iastore, 1) := by decide +kernel
theorem dX5_tellPlace_16 : decode cX5_tellPlace 16 = .ok (.aload_n 0, 1) := by decide +kernel
theorem dX5_tellPlace_17 : decode cX5_tellPlace 17 = .ok (.getfield 15, 3) := by decide +kernel
theorem dX5_tellPlace_20 : decode cX5_tellPlace 20 = .ok (.aload_n 0, 1) := by decide +kernel
theorem dX5_tellPlace_21 : decode cX5_tellPlace 21 = .ok (.getfield 18, 3) := by decide +kernel
theorem dX5_tellPlace_24 : decode cX5_tellPlace 24 = .ok (.iload_n 1, 1) := by decide +kernel
theorem dX5_tellPlace_25 : decode cX5_tellPlace 25 = .ok (.iastore, 1) := by decide +kernel
theorem dX5_tellPlace_26 : decode cX5_tellPlace 26 = .ok (.aload_n 0, 1) := by decide +kernel
theorem dX5_tellPlace_27 : decode cX5_tellPlace 27 = .ok (.dup, 1) := by decide +kernel
theorem dX5_tellPlace_28 : decode cX5_tellPlace 28 = .ok (.getfield 18, 3) := by decide +kernel
theorem dX5_tellPlace_31 : decode cX5_tellPlace 31 = .ok (.iconst 1, 1) := by decide +kernel
theorem dX5_tellPlace_32 : decode cX5_tellPlace 32 = .ok (.iadd, 1) := by decide +kernel
theorem dX5_tellPlace_33 : decode cX5_tellPlace 33 = .ok (.putfield 18, 3) := by decide +kernel
theorem dX5_tellPlace_36 : decode cX5_tellPlace 36 = .ok (.return_, 1) := by decide +kernel
theorem dX5_markParts_0 : decode cX5_markParts 0 = .ok (.aload_n 0, 1) := by decide +kernel
theorem dX5_markParts_1 : decode cX5_markParts 1 = .ok (.getfield 22, 3) := by decide +kernel
theorem dX5_markParts_4 : decode cX5_markParts 4 = .ok (.lconst 0, 1) := by decide +kernel
theorem dX5_markParts_5 : decode cX5_markParts 5 = .ok (.invokestatic 85, 3) := by decide +kernel
theorem dX5_markParts_8 : decode cX5_markParts 8 = .ok (.aload_n 0, 1) := by decide +kernel
theorem dX5_markParts_9 : decode cX5_markParts 9 = .ok (.getfield 30, 3) := by decide +kernel
theorem dX5_markParts_12 : decode cX5_markParts 12 = .ok (.lconst 0, 1) := by decide +kernel
theorem dX5_markParts_13 : decode cX5_markParts 13 = .ok (.invokestatic 85, 3) := by decide +kernel
theorem dX5_markParts_16 : decode cX5_markParts 16 = .ok (.aload_n 0, 1) := by decide +kernel
theorem dX5_markParts_17 : decode cX5_markParts 17 = .ok (.getfield 33, 3) := by decide +kernel
theorem dX5_markParts_20 : decode cX5_markParts 20 = .ok (.lconst 0, 1) := by decide +kernel
theorem dX5_markParts_21 : decode cX5_markParts 21 = .ok (.invokestatic 85, 3) := by decide +kernel
theorem dX5_markParts_24 : decode cX5_markParts 24 = .ok (.aload_n 0, 1) := by decide +kernel
theorem dX5_markParts_25 : decode cX5_markParts 25 = .ok (.lconst 0, 1) := by decide +kernel
theorem dX5_markParts_26 : decode cX5_markParts 26 = .ok (.putfield 26, 3) := by decide +kernel
theorem dX5_markParts_29 : decode cX5_markParts 29 = .ok (.iconst 0, 1) := by decide +kernel
theorem dX5_markParts_30 : decode cX5_markParts 30 = .ok (.istore_n 2, 1) := by decide +kernel
theorem dX5_markParts_31 : decode cX5_markParts 31 = .ok (.iload_n 2, 1) := by decide +kernel
theorem dX5_markParts_32 : decode cX5_markParts 32 = .ok (.aload_n 1, 1) := by decide +kernel
theorem dX5_markParts_33 : decode cX5_markParts 33 = .ok (.getfield 52, 3) := by decide +kernel
theorem dX5_markParts_36 : decode cX5_markParts 36 = .ok (.if_icmp .ge 117, 3) := by decide +kernel
theorem dX5_markParts_39 : decode cX5_markParts 39 = .ok (.aload_n 1, 1) := by decide +kernel
theorem dX5_markParts_40 : decode cX5_markParts 40 = .ok (.aload_n 1, 1) := by decide +kernel
theorem dX5_markParts_41 : decode cX5_markParts 41 = .ok (.getfield 60, 3) := by decide +kernel
theorem dX5_markParts_44 : decode cX5_markParts 44 = .ok (.iload_n 2, 1) := by decide +kernel
theorem dX5_markParts_45 : decode cX5_markParts 45 = .ok (.iaload, 1) := by decide +kernel
theorem dX5_markParts_46 : decode cX5_markParts 46 = .ok (.invokevirtual 63, 3) := by decide +kernel
theorem dX5_markParts_49 : decode cX5_markParts 49 = .ok (.istore_n 3, 1) := by decide +kernel
theorem dX5_markParts_50 : decode cX5_markParts 50 = .ok (.aload_n 1, 1) := by decide +kernel
theorem dX5_markParts_51 : decode cX5_markParts 51 = .ok (.aload_n 1, 1) := by decide +kernel
theorem dX5_markParts_52 : decode cX5_markParts 52 = .ok (.getfield 67, 3) := by decide +kernel
theorem dX5_markParts_55 : decode cX5_markParts 55 = .ok (.iload_n 2, 1) := by decide +kernel
theorem dX5_markParts_56 : decode cX5_markParts 56 = .ok (.iaload, 1) := by decide +kernel
theorem dX5_markParts_57 : decode cX5_markParts 57 = .ok (.invokevirtual 63, 3) := by decide +kernel
theorem dX5_markParts_60 : decode cX5_markParts 60 = .ok (.istore 4, 2) := by decide +kernel
theorem dX5_markParts_62 : decode cX5_markParts 62 = .ok (.aload_n 1, 1) := by decide +kernel
theorem dX5_markParts_63 : decode cX5_markParts 63 = .ok (.getfield 57, 3) := by decide +kernel
theorem dX5_markParts_66 : decode cX5_markParts 66 = .ok (.iload_n 2, 1) := by decide +kernel
theorem dX5_markParts_67 : decode cX5_markParts 67 = .ok (.iaload, 1) := by decide +kernel
theorem dX5_markParts_68 : decode cX5_markParts 68 = .ok (.istore 5, 2) := by decide +kernel
theorem dX5_markParts_70 : decode cX5_markParts 70 = .ok (.iload_n 3, 1) := by decide +kernel
theorem dX5_markParts_71 : decode cX5_markParts 71 = .ok (.ifCond .lt 28, 3) := by decide +kernel
theorem dX5_markParts_74 : decode cX5_markParts 74 = .ok (.iload 5, 2) := by decide +kernel
theorem dX5_markParts_76 : decode cX5_markParts 76 = .ok (.ifCond .lt 23, 3) := by decide +kernel
theorem dX5_markParts_79 : decode cX5_markParts 79 = .ok (.iload 5, 2) := by decide +kernel
theorem dX5_markParts_81 : decode cX5_markParts 81 = .ok (.bipush 7, 2) := by decide +kernel
theorem dX5_markParts_83 : decode cX5_markParts 83 = .ok (.if_icmp .ge 16, 3) := by decide +kernel
theorem dX5_markParts_86 : decode cX5_markParts 86 = .ok (.aload_n 0, 1) := by decide +kernel
theorem dX5_markParts_87 : decode cX5_markParts 87 = .ok (.getfield 22, 3) := by decide +kernel
theorem dX5_markParts_90 : decode cX5_markParts 90 = .ok (.iload 5, 2) := by decide +kernel
theorem dX5_markParts_92 : decode cX5_markParts 92 = .ok (.dup2, 1) := by decide +kernel
theorem dX5_markParts_93 : decode cX5_markParts 93 = .ok (.laload, 1) := by decide +kernel
theorem dX5_markParts_94 : decode cX5_markParts 94 = .ok (.lconst 1, 1) := by decide +kernel
theorem dX5_markParts_95 : decode cX5_markParts 95 = .ok (.iload_n 3, 1) := by decide +kernel
theorem dX5_markParts_96 : decode cX5_markParts 96 = .ok (.lshl, 1) := by decide +kernel
theorem dX5_markParts_97 : decode cX5_markParts 97 = .ok (.lor, 1) := by decide +kernel
theorem dX5_markParts_98 : decode cX5_markParts 98 = .ok (.lastore, 1) := by decide +kernel
theorem dX5_markParts_99 : decode cX5_markParts 99 = .ok (.iload_n 3, 1) := by decide +kernel
theorem dX5_markParts_100 : decode cX5_markParts 100 = .ok (.ifCond .lt 47, 3) := by decide +kernel
theorem dX5_markParts_103 : decode cX5_markParts 103 = .ok (.iload 4, 2) := by decide +kernel
theorem dX5_markParts_105 : decode cX5_markParts 105 = .ok (.ifCond .lt 42, 3) := by decide +kernel
theorem dX5_markParts_108 : decode cX5_markParts 108 = .ok (.aload_n 0, 1) := by decide +kernel
theorem dX5_markParts_109 : decode cX5_markParts 109 = .ok (.dup, 1) := by decide +kernel
theorem dX5_markParts_110 : decode cX5_markParts 110 = .ok (.getfield 26, 3) := by decide +kernel
theorem dX5_markParts_113 : decode cX5_markParts 113 = .ok (.lconst 1, 1) := by decide +kernel
theorem dX5_markParts_114 : decode cX5_markParts 114 = .ok (.iload 4, 2) := by decide +kernel
theorem dX5_markParts_116 : decode cX5_markParts 116 = .ok (.lshl, 1) := by decide +kernel
theorem dX5_markParts_117 : decode cX5_markParts 117 = .ok (.lor, 1) := by decide +kernel
theorem dX5_markParts_118 : decode cX5_markParts 118 = .ok (.putfield 26, 3) := by decide +kernel
theorem dX5_markParts_121 : decode cX5_markParts 121 = .ok (.aload_n 0, 1) := by decide +kernel
theorem dX5_markParts_122 : decode cX5_markParts 122 = .ok (.getfield 30, 3) := by decide +kernel
theorem dX5_markParts_125 : decode cX5_markParts 125 = .ok (.iload 4, 2) := by decide +kernel
theorem dX5_markParts_127 : decode cX5_markParts 127 = .ok (.dup2, 1) := by decide +kernel
theorem dX5_markParts_128 : decode cX5_markParts 128 = .ok (.laload, 1) := by decide +kernel
theorem dX5_markParts_129 : decode cX5_markParts 129 = .ok (.lconst 1, 1) := by decide +kernel
theorem dX5_markParts_130 : decode cX5_markParts 130 = .ok (.iload_n 3, 1) := by decide +kernel
theorem dX5_markParts_131 : decode cX5_markParts 131 = .ok (.lshl, 1) := by decide +kernel
theorem dX5_markParts_132 : decode cX5_markParts 132 = .ok (.lor, 1) := by decide +kernel
theorem dX5_markParts_133 : decode cX5_markParts 133 = .ok (.lastore, 1) := by decide +kernel
theorem dX5_markParts_134 : decode cX5_markParts 134 = .ok (.aload_n 0, 1) := by decide +kernel
theorem dX5_markParts_135 : decode cX5_markParts 135 = .ok (.getfield 33, 3) := by decide +kernel
theorem dX5_markParts_138 : decode cX5_markParts 138 = .ok (.iload_n 3, 1) := by decide +kernel
theorem dX5_markParts_139 : decode cX5_markParts 139 = .ok (.dup2, 1) := by decide +kernel
theorem dX5_markParts_140 : decode cX5_markParts 140 = .ok (.laload, 1) := by decide +kernel
theorem dX5_markParts_141 : decode cX5_markParts 141 = .ok (.lconst 1, 1) := by decide +kernel
theorem dX5_markParts_142 : decode cX5_markParts 142 = .ok (.iload 4, 2) := by decide +kernel
theorem dX5_markParts_144 : decode cX5_markParts 144 = .ok (.lshl, 1) := by decide +kernel
theorem dX5_markParts_145 : decode cX5_markParts 145 = .ok (.lor, 1) := by decide +kernel
theorem dX5_markParts_146 : decode cX5_markParts 146 = .ok (.lastore, 1) := by decide +kernel
theorem dX5_markParts_147 : decode cX5_markParts 147 = .ok (.iinc 2 1, 3) := by decide +kernel
theorem dX5_markParts_150 : decode cX5_markParts 150 = .ok (.goto (-119), 3) := by decide +kernel
theorem dX5_markParts_153 : decode cX5_markParts 153 = .ok (.return_, 1) := by decide +kernel
theorem dX5_firstsFor_0 : decode cX5_firstsFor 0 = .ok (.iload_n 2, 1) := by decide +kernel
theorem dX5_firstsFor_1 : decode cX5_firstsFor 1 = .ok (.ifCond .lt 16, 3) := by decide +kernel
theorem dX5_firstsFor_4 : decode cX5_firstsFor 4 = .ok (.iload_n 2, 1) := by decide +kernel
theorem dX5_firstsFor_5 : decode cX5_firstsFor 5 = .ok (.bipush 50, 2) := by decide +kernel
theorem dX5_firstsFor_7 : decode cX5_firstsFor 7 = .ok (.if_icmp .ge 10, 3) := by decide +kernel
theorem dX5_firstsFor_10 : decode cX5_firstsFor 10 = .ok (.aload_n 0, 1) := by decide +kernel
theorem dX5_firstsFor_11 : decode cX5_firstsFor 11 = .ok (.getfield 30, 3) := by decide +kernel
theorem dX5_firstsFor_14 : decode cX5_firstsFor 14 = .ok (.iload_n 2, 1) := by decide +kernel
theorem dX5_firstsFor_15 : decode cX5_firstsFor 15 = .ok (.laload, 1) := by decide +kernel
theorem dX5_firstsFor_16 : decode cX5_firstsFor 16 = .ok (.lreturn, 1) := by decide +kernel
theorem dX5_firstsFor_17 : decode cX5_firstsFor 17 = .ok (.iload_n 1, 1) := by decide +kernel
theorem dX5_firstsFor_18 : decode cX5_firstsFor 18 = .ok (.ifCond .lt 18, 3) := by decide +kernel
theorem dX5_firstsFor_21 : decode cX5_firstsFor 21 = .ok (.iload_n 1, 1) := by decide +kernel
theorem dX5_firstsFor_22 : decode cX5_firstsFor 22 = .ok (.bipush 7, 2) := by decide +kernel
theorem dX5_firstsFor_24 : decode cX5_firstsFor 24 = .ok (.if_icmp .ge 12, 3) := by decide +kernel
theorem dX5_firstsFor_27 : decode cX5_firstsFor 27 = .ok (.aload_n 0, 1) := by decide +kernel
theorem dX5_firstsFor_28 : decode cX5_firstsFor 28 = .ok (.getfield 22, 3) := by decide +kernel
theorem dX5_firstsFor_31 : decode cX5_firstsFor 31 = .ok (.iload_n 1, 1) := by decide +kernel
theorem dX5_firstsFor_32 : decode cX5_firstsFor 32 = .ok (.laload, 1) := by decide +kernel
theorem dX5_firstsFor_33 : decode cX5_firstsFor 33 = .ok (.goto 4, 3) := by decide +kernel
theorem dX5_firstsFor_36 : decode cX5_firstsFor 36 = .ok (.lconst 0, 1) := by decide +kernel
theorem dX5_firstsFor_37 : decode cX5_firstsFor 37 = .ok (.lreturn, 1) := by decide +kernel
theorem dX5_secondsFor_0 : decode cX5_secondsFor 0 = .ok (.iload_n 1, 1) := by decide +kernel
theorem dX5_secondsFor_1 : decode cX5_secondsFor 1 = .ok (.ifCond .lt 18, 3) := by decide +kernel
theorem dX5_secondsFor_4 : decode cX5_secondsFor 4 = .ok (.iload_n 1, 1) := by decide +kernel
theorem dX5_secondsFor_5 : decode cX5_secondsFor 5 = .ok (.bipush 50, 2) := by decide +kernel
theorem dX5_secondsFor_7 : decode cX5_secondsFor 7 = .ok (.if_icmp .ge 12, 3) := by decide +kernel
theorem dX5_secondsFor_10 : decode cX5_secondsFor 10 = .ok (.aload_n 0, 1) := by decide +kernel
theorem dX5_secondsFor_11 : decode cX5_secondsFor 11 = .ok (.getfield 33, 3) := by decide +kernel
theorem dX5_secondsFor_14 : decode cX5_secondsFor 14 = .ok (.iload_n 1, 1) := by decide +kernel
theorem dX5_secondsFor_15 : decode cX5_secondsFor 15 = .ok (.laload, 1) := by decide +kernel
theorem dX5_secondsFor_16 : decode cX5_secondsFor 16 = .ok (.goto 7, 3) := by decide +kernel
theorem dX5_secondsFor_19 : decode cX5_secondsFor 19 = .ok (.aload_n 0, 1) := by decide +kernel
theorem dX5_secondsFor_20 : decode cX5_secondsFor 20 = .ok (.getfield 26, 3) := by decide +kernel
theorem dX5_secondsFor_23 : decode cX5_secondsFor 23 = .ok (.lreturn, 1) := by decide +kernel
theorem dX5_fewestSigns_0 : decode cX5_fewestSigns 0 = .ok (.aload_n 0, 1) := by decide +kernel
theorem dX5_fewestSigns_1 : decode cX5_fewestSigns 1 = .ok (.getfield 36, 3) := by decide +kernel
theorem dX5_fewestSigns_4 : decode cX5_fewestSigns 4 = .ok (.ldc 88, 2) := by decide +kernel
theorem dX5_fewestSigns_6 : decode cX5_fewestSigns 6 = .ok (.invokestatic 39, 3) := by decide +kernel
theorem dX5_fewestSigns_9 : decode cX5_fewestSigns 9 = .ok (.iconst 1, 1) := by decide +kernel
theorem dX5_fewestSigns_10 : decode cX5_fewestSigns 10 = .ok (.istore_n 3, 1) := by decide +kernel
theorem dX5_fewestSigns_11 : decode cX5_fewestSigns 11 = .ok (.iconst 0, 1) := by decide +kernel
theorem dX5_fewestSigns_12 : decode cX5_fewestSigns 12 = .ok (.istore 4, 2) := by decide +kernel
theorem dX5_fewestSigns_14 : decode cX5_fewestSigns 14 = .ok (.iload_n 3, 1) := by decide +kernel
theorem dX5_fewestSigns_15 : decode cX5_fewestSigns 15 = .ok (.ifCond .eq 102, 3) := by decide +kernel
theorem dX5_fewestSigns_18 : decode cX5_fewestSigns 18 = .ok (.iload 4, 2) := by decide +kernel
theorem dX5_fewestSigns_20 : decode cX5_fewestSigns 20 = .ok (.bipush 50, 2) := by decide +kernel
theorem dX5_fewestSigns_22 : decode cX5_fewestSigns 22 = .ok (.if_icmp .gt 95, 3) := by decide +kernel
theorem dX5_fewestSigns_25 : decode cX5_fewestSigns 25 = .ok (.iconst 0, 1) := by decide +kernel
theorem dX5_fewestSigns_26 : decode cX5_fewestSigns 26 = .ok (.istore_n 3, 1) := by decide +kernel
theorem dX5_fewestSigns_27 : decode cX5_fewestSigns 27 = .ok (.iconst 0, 1) := by decide +kernel
theorem dX5_fewestSigns_28 : decode cX5_fewestSigns 28 = .ok (.istore 5, 2) := by decide +kernel
theorem dX5_fewestSigns_30 : decode cX5_fewestSigns 30 = .ok (.iload 5, 2) := by decide +kernel
theorem dX5_fewestSigns_32 : decode cX5_fewestSigns 32 = .ok (.aload_n 1, 1) := by decide +kernel
theorem dX5_fewestSigns_33 : decode cX5_fewestSigns 33 = .ok (.getfield 52, 3) := by decide +kernel
theorem dX5_fewestSigns_36 : decode cX5_fewestSigns 36 = .ok (.if_icmp .ge 75, 3) := by decide +kernel
theorem dX5_fewestSigns_39 : decode cX5_fewestSigns 39 = .ok (.iconst 1, 1) := by decide +kernel
theorem dX5_fewestSigns_40 : decode cX5_fewestSigns 40 = .ok (.aload_n 0, 1) := by decide +kernel
theorem dX5_fewestSigns_41 : decode cX5_fewestSigns 41 = .ok (.aload_n 1, 1) := by decide +kernel
theorem dX5_fewestSigns_42 : decode cX5_fewestSigns 42 = .ok (.aload_n 1, 1) := by decide +kernel
theorem dX5_fewestSigns_43 : decode cX5_fewestSigns 43 = .ok (.getfield 60, 3) := by decide +kernel
theorem dX5_fewestSigns_46 : decode cX5_fewestSigns 46 = .ok (.iload 5, 2) := by decide +kernel
theorem dX5_fewestSigns_48 : decode cX5_fewestSigns 48 = .ok (.iaload, 1) := by decide +kernel
theorem dX5_fewestSigns_49 : decode cX5_fewestSigns 49 = .ok (.invokevirtual 63, 3) := by decide +kernel
theorem dX5_fewestSigns_52 : decode cX5_fewestSigns 52 = .ok (.invokevirtual 89, 3) := by decide +kernel
theorem dX5_fewestSigns_55 : decode cX5_fewestSigns 55 = .ok (.iadd, 1) := by decide +kernel
theorem dX5_fewestSigns_56 : decode cX5_fewestSigns 56 = .ok (.aload_n 0, 1) := by decide +kernel
theorem dX5_fewestSigns_57 : decode cX5_fewestSigns 57 = .ok (.aload_n 1, 1) := by decide +kernel
theorem dX5_fewestSigns_58 : decode cX5_fewestSigns 58 = .ok (.aload_n 1, 1) := by decide +kernel
theorem dX5_fewestSigns_59 : decode cX5_fewestSigns 59 = .ok (.getfield 67, 3) := by decide +kernel
theorem dX5_fewestSigns_62 : decode cX5_fewestSigns 62 = .ok (.iload 5, 2) := by decide +kernel
theorem dX5_fewestSigns_64 : decode cX5_fewestSigns 64 = .ok (.iaload, 1) := by decide +kernel
theorem dX5_fewestSigns_65 : decode cX5_fewestSigns 65 = .ok (.invokevirtual 63, 3) := by decide +kernel
theorem dX5_fewestSigns_68 : decode cX5_fewestSigns 68 = .ok (.invokevirtual 89, 3) := by decide +kernel
theorem dX5_fewestSigns_71 : decode cX5_fewestSigns 71 = .ok (.iadd, 1) := by decide +kernel
theorem dX5_fewestSigns_72 : decode cX5_fewestSigns 72 = .ok (.istore 6, 2) := by decide +kernel
theorem dX5_fewestSigns_74 : decode cX5_fewestSigns 74 = .ok (.aload_n 1, 1) := by decide +kernel
theorem dX5_fewestSigns_75 : decode cX5_fewestSigns 75 = .ok (.getfield 74, 3) := by decide +kernel
theorem dX5_fewestSigns_78 : decode cX5_fewestSigns 78 = .ok (.iload 5, 2) := by decide +kernel
theorem dX5_fewestSigns_80 : decode cX5_fewestSigns 80 = .ok (.iaload, 1) := by decide +kernel
theorem dX5_fewestSigns_81 : decode cX5_fewestSigns 81 = .ok (.istore 7, 2) := by decide +kernel
theorem dX5_fewestSigns_83 : decode cX5_fewestSigns 83 = .ok (.iload 6, 2) := by decide +kernel
theorem dX5_fewestSigns_85 : decode cX5_fewestSigns 85 = .ok (.aload_n 0, 1) := by decide +kernel
theorem dX5_fewestSigns_86 : decode cX5_fewestSigns 86 = .ok (.iload 7, 2) := by decide +kernel
theorem dX5_fewestSigns_88 : decode cX5_fewestSigns 88 = .ok (.invokevirtual 89, 3) := by decide +kernel
theorem dX5_fewestSigns_91 : decode cX5_fewestSigns 91 = .ok (.if_icmp .ge 14, 3) := by decide +kernel
theorem dX5_fewestSigns_94 : decode cX5_fewestSigns 94 = .ok (.aload_n 0, 1) := by decide +kernel
theorem dX5_fewestSigns_95 : decode cX5_fewestSigns 95 = .ok (.getfield 36, 3) := by decide +kernel
theorem dX5_fewestSigns_98 : decode cX5_fewestSigns 98 = .ok (.iload 7, 2) := by decide +kernel
theorem dX5_fewestSigns_100 : decode cX5_fewestSigns 100 = .ok (.iload 6, 2) := by decide +kernel
theorem dX5_fewestSigns_102 : decode cX5_fewestSigns 102 = .ok (.iastore, 1) := by decide +kernel
theorem dX5_fewestSigns_103 : decode cX5_fewestSigns 103 = .ok (.iconst 1, 1) := by decide +kernel
theorem dX5_fewestSigns_104 : decode cX5_fewestSigns 104 = .ok (.istore_n 3, 1) := by decide +kernel
theorem dX5_fewestSigns_105 : decode cX5_fewestSigns 105 = .ok (.iinc 5 1, 3) := by decide +kernel
theorem dX5_fewestSigns_108 : decode cX5_fewestSigns 108 = .ok (.goto (-78), 3) := by decide +kernel
theorem dX5_fewestSigns_111 : decode cX5_fewestSigns 111 = .ok (.iinc 4 1, 3) := by decide +kernel
theorem dX5_fewestSigns_114 : decode cX5_fewestSigns 114 = .ok (.goto (-100), 3) := by decide +kernel
theorem dX5_fewestSigns_117 : decode cX5_fewestSigns 117 = .ok (.aload_n 0, 1) := by decide +kernel
theorem dX5_fewestSigns_118 : decode cX5_fewestSigns 118 = .ok (.iload_n 2, 1) := by decide +kernel
theorem dX5_fewestSigns_119 : decode cX5_fewestSigns 119 = .ok (.invokevirtual 89, 3) := by decide +kernel
theorem dX5_fewestSigns_122 : decode cX5_fewestSigns 122 = .ok (.ireturn, 1) := by decide +kernel
theorem dX5_fewestOf_0 : decode cX5_fewestOf 0 = .ok (.iload_n 1, 1) := by decide +kernel
theorem dX5_fewestOf_1 : decode cX5_fewestOf 1 = .ok (.ifCond .lt 18, 3) := by decide +kernel
theorem dX5_fewestOf_4 : decode cX5_fewestOf 4 = .ok (.iload_n 1, 1) := by decide +kernel
theorem dX5_fewestOf_5 : decode cX5_fewestOf 5 = .ok (.bipush 50, 2) := by decide +kernel
theorem dX5_fewestOf_7 : decode cX5_fewestOf 7 = .ok (.if_icmp .ge 12, 3) := by decide +kernel
theorem dX5_fewestOf_10 : decode cX5_fewestOf 10 = .ok (.aload_n 0, 1) := by decide +kernel
theorem dX5_fewestOf_11 : decode cX5_fewestOf 11 = .ok (.getfield 36, 3) := by decide +kernel
theorem dX5_fewestOf_14 : decode cX5_fewestOf 14 = .ok (.iload_n 1, 1) := by decide +kernel
theorem dX5_fewestOf_15 : decode cX5_fewestOf 15 = .ok (.iaload, 1) := by decide +kernel
theorem dX5_fewestOf_16 : decode cX5_fewestOf 16 = .ok (.goto 4, 3) := by decide +kernel
theorem dX5_fewestOf_19 : decode cX5_fewestOf 19 = .ok (.iconst 0, 1) := by decide +kernel
theorem dX5_fewestOf_20 : decode cX5_fewestOf 20 = .ok (.ireturn, 1) := by decide +kernel
theorem dX6_init_0 : decode cX6_init 0 = .ok (.aload_n 0, 1) := by decide +kernel
theorem dX6_init_1 : decode cX6_init 1 = .ok (.invokespecial 3, 3) := by decide +kernel
theorem dX6_init_4 : decode cX6_init 4 = .ok (.aload_n 0, 1) := by decide +kernel
theorem dX6_init_5 : decode cX6_init 5 = .ok (.new 9, 3) := by decide +kernel
theorem dX6_init_8 : decode cX6_init 8 = .ok (.dup, 1) := by decide +kernel
theorem dX6_init_9 : decode cX6_init 9 = .ok (.invokespecial 11, 3) := by decide +kernel
theorem dX6_init_12 : decode cX6_init 12 = .ok (.putfield 12, 3) := by decide +kernel
theorem dX6_init_15 : decode cX6_init 15 = .ok (.aload_n 0, 1) := by decide +kernel
theorem dX6_init_16 : decode cX6_init 16 = .ok (.bipush 6, 2) := by decide +kernel
theorem dX6_init_18 : decode cX6_init 18 = .ok (.anewarray 18, 3) := by decide +kernel
theorem dX6_init_21 : decode cX6_init 21 = .ok (.putfield 20, 3) := by decide +kernel
theorem dX6_init_24 : decode cX6_init 24 = .ok (.aload_n 0, 1) := by decide +kernel
theorem dX6_init_25 : decode cX6_init 25 = .ok (.iconst 0, 1) := by decide +kernel
theorem dX6_init_26 : decode cX6_init 26 = .ok (.putfield 24, 3) := by decide +kernel
theorem dX6_init_29 : decode cX6_init 29 = .ok (.aload_n 0, 1) := by decide +kernel
theorem dX6_init_30 : decode cX6_init 30 = .ok (.new 18, 3) := by decide +kernel
theorem dX6_init_33 : decode cX6_init 33 = .ok (.dup, 1) := by decide +kernel
theorem dX6_init_34 : decode cX6_init 34 = .ok (.iconst 0, 1) := by decide +kernel
theorem dX6_init_35 : decode cX6_init 35 = .ok (.invokespecial 28, 3) := by decide +kernel
theorem dX6_init_38 : decode cX6_init 38 = .ok (.putfield 31, 3) := by decide +kernel
theorem dX6_init_41 : decode cX6_init 41 = .ok (.iconst 0, 1) := by decide +kernel
theorem dX6_init_42 : decode cX6_init 42 = .ok (.istore_n 1, 1) := by decide +kernel
theorem dX6_init_43 : decode cX6_init 43 = .ok (.iload_n 1, 1) := by decide +kernel
theorem dX6_init_44 : decode cX6_init 44 = .ok (.bipush 6, 2) := by decide +kernel
theorem dX6_init_46 : decode cX6_init 46 = .ok (.if_icmp .ge 19, 3) := by decide +kernel
theorem dX6_init_49 : decode cX6_init 49 = .ok (.aload_n 0, 1) := by decide +kernel
theorem dX6_init_50 : decode cX6_init 50 = .ok (.getfield 20, 3) := by decide +kernel
theorem dX6_init_53 : decode cX6_init 53 = .ok (.iload_n 1, 1) := by decide +kernel
theorem dX6_init_54 : decode cX6_init 54 = .ok (.aload_n 0, 1) := by decide +kernel
theorem dX6_init_55 : decode cX6_init 55 = .ok (.getfield 31, 3) := by decide +kernel
theorem dX6_init_58 : decode cX6_init 58 = .ok (.aastore, 1) := by decide +kernel
theorem dX6_init_59 : decode cX6_init 59 = .ok (.iinc 1 1, 3) := by decide +kernel
theorem dX6_init_62 : decode cX6_init 62 = .ok (.goto (-19), 3) := by decide +kernel
theorem dX6_init_65 : decode cX6_init 65 = .ok (.return_, 1) := by decide +kernel
theorem dX6_copyFrom_0 : decode cX6_copyFrom 0 = .ok (.aload_n 0, 1) := by decide +kernel
theorem dX6_copyFrom_1 : decode cX6_copyFrom 1 = .ok (.getfield 12, 3) := by decide +kernel
theorem dX6_copyFrom_4 : decode cX6_copyFrom 4 = .ok (.aload_n 1, 1) := by decide +kernel
theorem dX6_copyFrom_5 : decode cX6_copyFrom 5 = .ok (.getfield 12, 3) := by decide +kernel
theorem dX6_copyFrom_8 : decode cX6_copyFrom 8 = .ok (.invokevirtual 35, 3) := by decide +kernel
theorem dX6_copyFrom_11 : decode cX6_copyFrom 11 = .ok (.aload_n 0, 1) := by decide +kernel
theorem dX6_copyFrom_12 : decode cX6_copyFrom 12 = .ok (.aload_n 1, 1) := by decide +kernel
theorem dX6_copyFrom_13 : decode cX6_copyFrom 13 = .ok (.getfield 24, 3) := by decide +kernel
theorem dX6_copyFrom_16 : decode cX6_copyFrom 16 = .ok (.putfield 24, 3) := by decide +kernel
theorem dX6_copyFrom_19 : decode cX6_copyFrom 19 = .ok (.iconst 0, 1) := by decide +kernel
theorem dX6_copyFrom_20 : decode cX6_copyFrom 20 = .ok (.istore_n 2, 1) := by decide +kernel
theorem dX6_copyFrom_21 : decode cX6_copyFrom 21 = .ok (.iload_n 2, 1) := by decide +kernel
theorem dX6_copyFrom_22 : decode cX6_copyFrom 22 = .ok (.bipush 6, 2) := by decide +kernel
theorem dX6_copyFrom_24 : decode cX6_copyFrom 24 = .ok (.if_icmp .ge 21, 3) := by decide +kernel
theorem dX6_copyFrom_27 : decode cX6_copyFrom 27 = .ok (.aload_n 0, 1) := by decide +kernel
theorem dX6_copyFrom_28 : decode cX6_copyFrom 28 = .ok (.getfield 20, 3) := by decide +kernel
theorem dX6_copyFrom_31 : decode cX6_copyFrom 31 = .ok (.iload_n 2, 1) := by decide +kernel
theorem dX6_copyFrom_32 : decode cX6_copyFrom 32 = .ok (.aload_n 1, 1) := by decide +kernel
theorem dX6_copyFrom_33 : decode cX6_copyFrom 33 = .ok (.getfield 20, 3) := by decide +kernel
theorem dX6_copyFrom_36 : decode cX6_copyFrom 36 = .ok (.iload_n 2, 1) := by decide +kernel
theorem dX6_copyFrom_37 : decode cX6_copyFrom 37 = .ok (.aaload, 1) := by decide +kernel
theorem dX6_copyFrom_38 : decode cX6_copyFrom 38 = .ok (.aastore, 1) := by decide +kernel
theorem dX6_copyFrom_39 : decode cX6_copyFrom 39 = .ok (.iinc 2 1, 3) := by decide +kernel
theorem dX6_copyFrom_42 : decode cX6_copyFrom 42 = .ok (.goto (-21), 3) := by decide +kernel
theorem dX6_copyFrom_45 : decode cX6_copyFrom 45 = .ok (.return_, 1) := by decide +kernel
theorem dX6_empty_0 : decode cX6_empty 0 = .ok (.aload_n 0, 1) := by decide +kernel
theorem dX6_empty_1 : decode cX6_empty 1 = .ok (.getfield 12, 3) := by decide +kernel
theorem dX6_empty_4 : decode cX6_empty 4 = .ok (.iconst 0, 1) := by decide +kernel
theorem dX6_empty_5 : decode cX6_empty 5 = .ok (.putfield 39, 3) := by decide +kernel
theorem dX6_empty_8 : decode cX6_empty 8 = .ok (.aload_n 0, 1) := by decide +kernel
theorem dX6_empty_9 : decode cX6_empty 9 = .ok (.iconst 0, 1) := by decide +kernel
theorem dX6_empty_10 : decode cX6_empty 10 = .ok (.putfield 24, 3) := by decide +kernel
theorem dX6_empty_13 : decode cX6_empty 13 = .ok (.return_, 1) := by decide +kernel
theorem dX6_hasRule_0 : decode cX6_hasRule 0 = .ok (.iload_n 1, 1) := by decide +kernel
theorem dX6_hasRule_1 : decode cX6_hasRule 1 = .ok (.ifCond .lt 15, 3) := by decide +kernel
theorem dX6_hasRule_4 : decode cX6_hasRule 4 = .ok (.iload_n 1, 1) := by decide +kernel
theorem dX6_hasRule_5 : decode cX6_hasRule 5 = .ok (.aload_n 0, 1) := by decide +kernel
theorem dX6_hasRule_6 : decode cX6_hasRule 6 = .ok (.getfield 24, 3) := by decide +kernel
theorem dX6_hasRule_9 : decode cX6_hasRule 9 = .ok (.if_icmp .ge 7, 3) := by decide +kernel
theorem dX6_hasRule_12 : decode cX6_hasRule 12 = .ok (.iconst 1, 1) := by decide +kernel
theorem dX6_hasRule_13 : decode cX6_hasRule 13 = .ok (.goto 4, 3) := by decide +kernel
theorem dX6_hasRule_16 : decode cX6_hasRule 16 = .ok (.iconst 0, 1) := by decide +kernel
theorem dX6_hasRule_17 : decode cX6_hasRule 17 = .ok (.ireturn, 1) := by decide +kernel
theorem dX6_ruleAt_0 : decode cX6_ruleAt 0 = .ok (.aload_n 0, 1) := by decide +kernel
theorem dX6_ruleAt_1 : decode cX6_ruleAt 1 = .ok (.iload_n 1, 1) := by decide +kernel
theorem dX6_ruleAt_2 : decode cX6_ruleAt 2 = .ok (.invokevirtual 42, 3) := by decide +kernel
theorem dX6_ruleAt_5 : decode cX6_ruleAt 5 = .ok (.ifCond .eq 12, 3) := by decide +kernel
theorem dX6_ruleAt_8 : decode cX6_ruleAt 8 = .ok (.aload_n 0, 1) := by decide +kernel
theorem dX6_ruleAt_9 : decode cX6_ruleAt 9 = .ok (.getfield 20, 3) := by decide +kernel
theorem dX6_ruleAt_12 : decode cX6_ruleAt 12 = .ok (.iload_n 1, 1) := by decide +kernel
theorem dX6_ruleAt_13 : decode cX6_ruleAt 13 = .ok (.aaload, 1) := by decide +kernel
theorem dX6_ruleAt_14 : decode cX6_ruleAt 14 = .ok (.goto 7, 3) := by decide +kernel
theorem dX6_ruleAt_17 : decode cX6_ruleAt 17 = .ok (.aload_n 0, 1) := by decide +kernel
theorem dX6_ruleAt_18 : decode cX6_ruleAt 18 = .ok (.getfield 31, 3) := by decide +kernel
theorem dX6_ruleAt_21 : decode cX6_ruleAt 21 = .ok (.areturn, 1) := by decide +kernel
theorem dX6_addRule_0 : decode cX6_addRule 0 = .ok (.aload_n 0, 1) := by decide +kernel
theorem dX6_addRule_1 : decode cX6_addRule 1 = .ok (.getfield 24, 3) := by decide +kernel
theorem dX6_addRule_4 : decode cX6_addRule 4 = .ok (.bipush 6, 2) := by decide +kernel
theorem dX6_addRule_6 : decode cX6_addRule 6 = .ok (.if_icmp .ge 23, 3) := by decide +kernel
theorem dX6_addRule_9 : decode cX6_addRule 9 = .ok (.aload_n 0, 1) := by decide +kernel
theorem dX6_addRule_10 : decode cX6_addRule 10 = .ok (.getfield 20, 3) := by decide +kernel
theorem dX6_addRule_13 : decode cX6_addRule 13 = .ok (.aload_n 0, 1) := by decide +kernel
theorem dX6_addRule_14 : decode cX6_addRule 14 = .ok (.getfield 24, 3) := by decide +kernel
theorem dX6_addRule_17 : decode cX6_addRule 17 = .ok (.aload_n 1, 1) := by decide +kernel
theorem dX6_addRule_18 : decode cX6_addRule 18 = .ok (.aastore, 1) := by decide +kernel
theorem dX6_addRule_19 : decode cX6_addRule 19 = .ok (.aload_n 0, 1) := by decide +kernel
theorem dX6_addRule_20 : decode cX6_addRule 20 = .ok (.dup, 1) := by decide +kernel
theorem dX6_addRule_21 : decode cX6_addRule 21 = .ok (.getfield 24, 3) := by decide +kernel
theorem dX6_addRule_24 : decode cX6_addRule 24 = .ok (.iconst 1, 1) := by decide +kernel
theorem dX6_addRule_25 : decode cX6_addRule 25 = .ok (.iadd, 1) := by decide +kernel
theorem dX6_addRule_26 : decode cX6_addRule 26 = .ok (.putfield 24, 3) := by decide +kernel
theorem dX6_addRule_29 : decode cX6_addRule 29 = .ok (.return_, 1) := by decide +kernel
theorem dX6_removeRule_0 : decode cX6_removeRule 0 = .ok (.aload_n 0, 1) := by decide +kernel
theorem dX6_removeRule_1 : decode cX6_removeRule 1 = .ok (.iload_n 1, 1) := by decide +kernel
theorem dX6_removeRule_2 : decode cX6_removeRule 2 = .ok (.invokevirtual 42, 3) := by decide +kernel
theorem dX6_removeRule_5 : decode cX6_removeRule 5 = .ok (.ifCond .ne 4, 3) := by decide +kernel
theorem dX6_removeRule_8 : decode cX6_removeRule 8 = .ok (.return_, 1) := by decide +kernel
theorem dX6_removeRule_9 : decode cX6_removeRule 9 = .ok (.iload_n 1, 1) := by decide +kernel
theorem dX6_removeRule_10 : decode cX6_removeRule 10 = .ok (.istore_n 2, 1) := by decide +kernel
theorem dX6_removeRule_11 : decode cX6_removeRule 11 = .ok (.iload_n 2, 1) := by decide +kernel
theorem dX6_removeRule_12 : decode cX6_removeRule 12 = .ok (.iconst 1, 1) := by decide +kernel
theorem dX6_removeRule_13 : decode cX6_removeRule 13 = .ok (.iadd, 1) := by decide +kernel
theorem dX6_removeRule_14 : decode cX6_removeRule 14 = .ok (.aload_n 0, 1) := by decide +kernel
theorem dX6_removeRule_15 : decode cX6_removeRule 15 = .ok (.getfield 24, 3) := by decide +kernel
theorem dX6_removeRule_18 : decode cX6_removeRule 18 = .ok (.if_icmp .ge 23, 3) := by decide +kernel
theorem dX6_removeRule_21 : decode cX6_removeRule 21 = .ok (.aload_n 0, 1) := by decide +kernel
theorem dX6_removeRule_22 : decode cX6_removeRule 22 = .ok (.getfield 20, 3) := by decide +kernel
theorem dX6_removeRule_25 : decode cX6_removeRule 25 = .ok (.iload_n 2, 1) := by decide +kernel
theorem dX6_removeRule_26 : decode cX6_removeRule 26 = .ok (.aload_n 0, 1) := by decide +kernel
theorem dX6_removeRule_27 : decode cX6_removeRule 27 = .ok (.getfield 20, 3) := by decide +kernel
theorem dX6_removeRule_30 : decode cX6_removeRule 30 = .ok (.iload_n 2, 1) := by decide +kernel
theorem dX6_removeRule_31 : decode cX6_removeRule 31 = .ok (.iconst 1, 1) := by decide +kernel
theorem dX6_removeRule_32 : decode cX6_removeRule 32 = .ok (.iadd, 1) := by decide +kernel
theorem dX6_removeRule_33 : decode cX6_removeRule 33 = .ok (.aaload, 1) := by decide +kernel
theorem dX6_removeRule_34 : decode cX6_removeRule 34 = .ok (.aastore, 1) := by decide +kernel
theorem dX6_removeRule_35 : decode cX6_removeRule 35 = .ok (.iinc 2 1, 3) := by decide +kernel
theorem dX6_removeRule_38 : decode cX6_removeRule 38 = .ok (.goto (-27), 3) := by decide +kernel
theorem dX6_removeRule_41 : decode cX6_removeRule 41 = .ok (.aload_n 0, 1) := by decide +kernel
theorem dX6_removeRule_42 : decode cX6_removeRule 42 = .ok (.dup, 1) := by decide +kernel
theorem dX6_removeRule_43 : decode cX6_removeRule 43 = .ok (.getfield 24, 3) := by decide +kernel
theorem dX6_removeRule_46 : decode cX6_removeRule 46 = .ok (.iconst 1, 1) := by decide +kernel
theorem dX6_removeRule_47 : decode cX6_removeRule 47 = .ok (.isub, 1) := by decide +kernel
theorem dX6_removeRule_48 : decode cX6_removeRule 48 = .ok (.putfield 24, 3) := by decide +kernel
theorem dX6_removeRule_51 : decode cX6_removeRule 51 = .ok (.return_, 1) := by decide +kernel
theorem dX7_init_0 : decode cX7_init 0 = .ok (.aload_n 0, 1) := by decide +kernel
theorem dX7_init_1 : decode cX7_init 1 = .ok (.invokespecial 3, 3) := by decide +kernel
theorem dX7_init_4 : decode cX7_init 4 = .ok (.aload_n 0, 1) := by decide +kernel
theorem dX7_init_5 : decode cX7_init 5 = .ok (.bipush 9, 2) := by decide +kernel
theorem dX7_init_7 : decode cX7_init 7 = .ok (.anewarray 11, 3) := by decide +kernel
theorem dX7_init_10 : decode cX7_init 10 = .ok (.putfield 13, 3) := by decide +kernel
theorem dX7_init_13 : decode cX7_init 13 = .ok (.aload_n 0, 1) := by decide +kernel
theorem dX7_init_14 : decode cX7_init 14 = .ok (.iconst 0, 1) := by decide +kernel
theorem dX7_init_15 : decode cX7_init 15 = .ok (.putfield 17, 3) := by decide +kernel
theorem dX7_init_18 : decode cX7_init 18 = .ok (.aload_n 0, 1) := by decide +kernel
theorem dX7_init_19 : decode cX7_init 19 = .ok (.iconst 0, 1) := by decide +kernel
theorem dX7_init_20 : decode cX7_init 20 = .ok (.putfield 21, 3) := by decide +kernel
theorem dX7_init_23 : decode cX7_init 23 = .ok (.iconst 0, 1) := by decide +kernel
theorem dX7_init_24 : decode cX7_init 24 = .ok (.istore_n 1, 1) := by decide +kernel
theorem dX7_init_25 : decode cX7_init 25 = .ok (.iload_n 1, 1) := by decide +kernel
theorem dX7_init_26 : decode cX7_init 26 = .ok (.bipush 9, 2) := by decide +kernel
theorem dX7_init_28 : decode cX7_init 28 = .ok (.if_icmp .ge 22, 3) := by decide +kernel
theorem dX7_init_31 : decode cX7_init 31 = .ok (.aload_n 0, 1) := by decide +kernel
theorem dX7_init_32 : decode cX7_init 32 = .ok (.getfield 13, 3) := by decide +kernel
theorem dX7_init_35 : decode cX7_init 35 = .ok (.iload_n 1, 1) := by decide +kernel
theorem dX7_init_36 : decode cX7_init 36 = .ok (.new 11, 3) := by decide +kernel
theorem dX7_init_39 : decode cX7_init 39 = .ok (.dup, 1) := by decide +kernel
theorem dX7_init_40 : decode cX7_init 40 = .ok (.invokespecial 24, 3) := by decide +kernel
theorem dX7_init_43 : decode cX7_init 43 = .ok (.aastore, 1) := by decide +kernel
theorem dX7_init_44 : decode cX7_init 44 = .ok (.iinc 1 1, 3) := by decide +kernel
theorem dX7_init_47 : decode cX7_init 47 = .ok (.goto (-22), 3) := by decide +kernel
theorem dX7_init_50 : decode cX7_init 50 = .ok (.return_, 1) := by decide +kernel
theorem dX7_prepare_0 : decode cX7_prepare 0 = .ok (.aload_n 0, 1) := by decide +kernel
theorem dX7_prepare_1 : decode cX7_prepare 1 = .ok (.getfield 13, 3) := by decide +kernel
theorem dX7_prepare_4 : decode cX7_prepare 4 = .ok (.aload_n 0, 1) := by decide +kernel
theorem dX7_prepare_5 : decode cX7_prepare 5 = .ok (.getfield 17, 3) := by decide +kernel
theorem dX7_prepare_8 : decode cX7_prepare 8 = .ok (.aaload, 1) := by decide +kernel
theorem dX7_prepare_9 : decode cX7_prepare 9 = .ok (.aload_n 1, 1) := by decide +kernel
theorem dX7_prepare_10 : decode cX7_prepare 10 = .ok (.invokevirtual 25, 3) := by decide +kernel
theorem dX7_prepare_13 : decode cX7_prepare 13 = .ok (.return_, 1) := by decide +kernel
theorem dX7_keepPrepared_0 : decode cX7_keepPrepared 0 = .ok (.aload_n 0, 1) := by decide +kernel
theorem dX7_keepPrepared_1 : decode cX7_keepPrepared 1 = .ok (.aload_n 0, 1) := by decide +kernel
theorem dX7_keepPrepared_2 : decode cX7_keepPrepared 2 = .ok (.getfield 17, 3) := by decide +kernel
theorem dX7_keepPrepared_5 : decode cX7_keepPrepared 5 = .ok (.iconst 1, 1) := by decide +kernel
theorem dX7_keepPrepared_6 : decode cX7_keepPrepared 6 = .ok (.iadd, 1) := by decide +kernel
theorem dX7_keepPrepared_7 : decode cX7_keepPrepared 7 = .ok (.bipush 9, 2) := by decide +kernel
theorem dX7_keepPrepared_9 : decode cX7_keepPrepared 9 = .ok (.irem, 1) := by decide +kernel
theorem dX7_keepPrepared_10 : decode cX7_keepPrepared 10 = .ok (.putfield 17, 3) := by decide +kernel
theorem dX7_keepPrepared_13 : decode cX7_keepPrepared 13 = .ok (.aload_n 0, 1) := by decide +kernel
theorem dX7_keepPrepared_14 : decode cX7_keepPrepared 14 = .ok (.bipush 8, 2) := by decide +kernel
theorem dX7_keepPrepared_16 : decode cX7_keepPrepared 16 = .ok (.aload_n 0, 1) := by decide +kernel
theorem dX7_keepPrepared_17 : decode cX7_keepPrepared 17 = .ok (.getfield 21, 3) := by decide +kernel
theorem dX7_keepPrepared_20 : decode cX7_keepPrepared 20 = .ok (.iconst 1, 1) := by decide +kernel
theorem dX7_keepPrepared_21 : decode cX7_keepPrepared 21 = .ok (.iadd, 1) := by decide +kernel
theorem dX7_keepPrepared_22 : decode cX7_keepPrepared 22 = .ok (.invokestatic 29, 3) := by decide +kernel
theorem dX7_keepPrepared_25 : decode cX7_keepPrepared 25 = .ok (.putfield 21, 3) := by decide +kernel
theorem dX7_keepPrepared_28 : decode cX7_keepPrepared 28 = .ok (.return_, 1) := by decide +kernel
theorem dX7_keep_0 : decode cX7_keep 0 = .ok (.aload_n 0, 1) := by decide +kernel
theorem dX7_keep_1 : decode cX7_keep 1 = .ok (.aload_n 1, 1) := by decide +kernel
theorem dX7_keep_2 : decode cX7_keep 2 = .ok (.invokevirtual 35, 3) := by decide +kernel
theorem dX7_keep_5 : decode cX7_keep 5 = .ok (.aload_n 0, 1) := by decide +kernel
theorem dX7_keep_6 : decode cX7_keep 6 = .ok (.invokevirtual 38, 3) := by decide +kernel
theorem dX7_keep_9 : decode cX7_keep 9 = .ok (.return_, 1) := by decide +kernel
theorem dX7_undo_0 : decode cX7_undo 0 = .ok (.aload_n 1, 1) := by decide +kernel
theorem dX7_undo_1 : decode cX7_undo 1 = .ok (.aload_n 0, 1) := by decide +kernel
theorem dX7_undo_2 : decode cX7_undo 2 = .ok (.getfield 13, 3) := by decide +kernel
theorem dX7_undo_5 : decode cX7_undo 5 = .ok (.aload_n 0, 1) := by decide +kernel
theorem dX7_undo_6 : decode cX7_undo 6 = .ok (.getfield 17, 3) := by decide +kernel
theorem dX7_undo_9 : decode cX7_undo 9 = .ok (.aaload, 1) := by decide +kernel
theorem dX7_undo_10 : decode cX7_undo 10 = .ok (.invokevirtual 25, 3) := by decide +kernel
theorem dX7_undo_13 : decode cX7_undo 13 = .ok (.return_, 1) := by decide +kernel
theorem dX7_goBack_0 : decode cX7_goBack 0 = .ok (.aload_n 0, 1) := by decide +kernel
theorem dX7_goBack_1 : decode cX7_goBack 1 = .ok (.getfield 21, 3) := by decide +kernel
theorem dX7_goBack_4 : decode cX7_goBack 4 = .ok (.ifCond .le 42, 3) := by decide +kernel
theorem dX7_goBack_7 : decode cX7_goBack 7 = .ok (.aload_n 0, 1) := by decide +kernel
theorem dX7_goBack_8 : decode cX7_goBack 8 = .ok (.dup, 1) := by decide +kernel
theorem dX7_goBack_9 : decode cX7_goBack 9 = .ok (.getfield 21, 3) := by decide +kernel
theorem dX7_goBack_12 : decode cX7_goBack 12 = .ok (.iconst 1, 1) := by decide +kernel
theorem dX7_goBack_13 : decode cX7_goBack 13 = .ok (.isub, 1) := by decide +kernel
theorem dX7_goBack_14 : decode cX7_goBack 14 = .ok (.putfield 21, 3) := by decide +kernel
theorem dX7_goBack_17 : decode cX7_goBack 17 = .ok (.aload_n 0, 1) := by decide +kernel
theorem dX7_goBack_18 : decode cX7_goBack 18 = .ok (.aload_n 0, 1) := by decide +kernel
theorem dX7_goBack_19 : decode cX7_goBack 19 = .ok (.getfield 17, 3) := by decide +kernel
theorem dX7_goBack_22 : decode cX7_goBack 22 = .ok (.bipush 9, 2) := by decide +kernel
theorem dX7_goBack_24 : decode cX7_goBack 24 = .ok (.iadd, 1) := by decide +kernel
theorem dX7_goBack_25 : decode cX7_goBack 25 = .ok (.iconst 1, 1) := by decide +kernel
theorem dX7_goBack_26 : decode cX7_goBack 26 = .ok (.isub, 1) := by decide +kernel
theorem dX7_goBack_27 : decode cX7_goBack 27 = .ok (.bipush 9, 2) := by decide +kernel
theorem dX7_goBack_29 : decode cX7_goBack 29 = .ok (.irem, 1) := by decide +kernel
theorem dX7_goBack_30 : decode cX7_goBack 30 = .ok (.putfield 17, 3) := by decide +kernel
theorem dX7_goBack_33 : decode cX7_goBack 33 = .ok (.aload_n 1, 1) := by decide +kernel
theorem dX7_goBack_34 : decode cX7_goBack 34 = .ok (.aload_n 0, 1) := by decide +kernel
theorem dX7_goBack_35 : decode cX7_goBack 35 = .ok (.getfield 13, 3) := by decide +kernel
theorem dX7_goBack_38 : decode cX7_goBack 38 = .ok (.aload_n 0, 1) := by decide +kernel
theorem dX7_goBack_39 : decode cX7_goBack 39 = .ok (.getfield 17, 3) := by decide +kernel
theorem dX7_goBack_42 : decode cX7_goBack 42 = .ok (.aaload, 1) := by decide +kernel
theorem dX7_goBack_43 : decode cX7_goBack 43 = .ok (.invokevirtual 25, 3) := by decide +kernel
theorem dX7_goBack_46 : decode cX7_goBack 46 = .ok (.return_, 1) := by decide +kernel
theorem dX8_init_0 : decode cX8_init 0 = .ok (.aload_n 0, 1) := by decide +kernel
theorem dX8_init_1 : decode cX8_init 1 = .ok (.invokespecial 3, 3) := by decide +kernel
theorem dX8_init_4 : decode cX8_init 4 = .ok (.aload_n 0, 1) := by decide +kernel
theorem dX8_init_5 : decode cX8_init 5 = .ok (.iconst 0, 1) := by decide +kernel
theorem dX8_init_6 : decode cX8_init 6 = .ok (.putfield 9, 3) := by decide +kernel
theorem dX8_init_9 : decode cX8_init 9 = .ok (.aload_n 0, 1) := by decide +kernel
theorem dX8_init_10 : decode cX8_init 10 = .ok (.bipush 50, 2) := by decide +kernel
theorem dX8_init_12 : decode cX8_init 12 = .ok (.newarray .int, 2) := by decide +kernel
theorem dX8_init_14 : decode cX8_init 14 = .ok (.putfield 15, 3) := by decide +kernel
theorem dX8_init_17 : decode cX8_init 17 = .ok (.aload_n 0, 1) := by decide +kernel
theorem dX8_init_18 : decode cX8_init 18 = .ok (.bipush 50, 2) := by decide +kernel
theorem dX8_init_20 : decode cX8_init 20 = .ok (.newarray .int, 2) := by decide +kernel
theorem dX8_init_22 : decode cX8_init 22 = .ok (.putfield 19, 3) := by decide +kernel
theorem dX8_init_25 : decode cX8_init 25 = .ok (.aload_n 0, 1) := by decide +kernel
theorem dX8_init_26 : decode cX8_init 26 = .ok (.bipush 50, 2) := by decide +kernel
theorem dX8_init_28 : decode cX8_init 28 = .ok (.newarray .int, 2) := by decide +kernel
theorem dX8_init_30 : decode cX8_init 30 = .ok (.putfield 22, 3) := by decide +kernel
theorem dX8_init_33 : decode cX8_init 33 = .ok (.aload_n 0, 1) := by decide +kernel
theorem dX8_init_34 : decode cX8_init 34 = .ok (.bipush 50, 2) := by decide +kernel
theorem dX8_init_36 : decode cX8_init 36 = .ok (.newarray .int, 2) := by decide +kernel
theorem dX8_init_38 : decode cX8_init 38 = .ok (.putfield 25, 3) := by decide +kernel
theorem dX8_init_41 : decode cX8_init 41 = .ok (.aload_n 0, 1) := by decide +kernel
theorem dX8_init_42 : decode cX8_init 42 = .ok (.bipush 50, 2) := by decide +kernel
theorem dX8_init_44 : decode cX8_init 44 = .ok (.newarray .int, 2) := by decide +kernel
theorem dX8_init_46 : decode cX8_init 46 = .ok (.putfield 28, 3) := by decide +kernel
theorem dX8_init_49 : decode cX8_init 49 = .ok (.return_, 1) := by decide +kernel
theorem dX8_copyFrom_0 : decode cX8_copyFrom 0 = .ok (.aload_n 0, 1) := by decide +kernel
theorem dX8_copyFrom_1 : decode cX8_copyFrom 1 = .ok (.aload_n 1, 1) := by decide +kernel
theorem dX8_copyFrom_2 : decode cX8_copyFrom 2 = .ok (.getfield 9, 3) := by decide +kernel
theorem dX8_copyFrom_5 : decode cX8_copyFrom 5 = .ok (.putfield 9, 3) := by decide +kernel
theorem dX8_copyFrom_8 : decode cX8_copyFrom 8 = .ok (.aload_n 1, 1) := by decide +kernel
theorem dX8_copyFrom_9 : decode cX8_copyFrom 9 = .ok (.getfield 15, 3) := by decide +kernel
theorem dX8_copyFrom_12 : decode cX8_copyFrom 12 = .ok (.iconst 0, 1) := by decide +kernel
theorem dX8_copyFrom_13 : decode cX8_copyFrom 13 = .ok (.aload_n 0, 1) := by decide +kernel
theorem dX8_copyFrom_14 : decode cX8_copyFrom 14 = .ok (.getfield 15, 3) := by decide +kernel
theorem dX8_copyFrom_17 : decode cX8_copyFrom 17 = .ok (.iconst 0, 1) := by decide +kernel
theorem dX8_copyFrom_18 : decode cX8_copyFrom 18 = .ok (.bipush 50, 2) := by decide +kernel
theorem dX8_copyFrom_20 : decode cX8_copyFrom 20 = .ok (.invokestatic 31, 3) := by decide +kernel
theorem dX8_copyFrom_23 : decode cX8_copyFrom 23 = .ok (.aload_n 1, 1) := by decide +kernel
theorem dX8_copyFrom_24 : decode cX8_copyFrom 24 = .ok (.getfield 19, 3) := by decide +kernel
theorem dX8_copyFrom_27 : decode cX8_copyFrom 27 = .ok (.iconst 0, 1) := by decide +kernel
theorem dX8_copyFrom_28 : decode cX8_copyFrom 28 = .ok (.aload_n 0, 1) := by decide +kernel
theorem dX8_copyFrom_29 : decode cX8_copyFrom 29 = .ok (.getfield 19, 3) := by decide +kernel
theorem dX8_copyFrom_32 : decode cX8_copyFrom 32 = .ok (.iconst 0, 1) := by decide +kernel
theorem dX8_copyFrom_33 : decode cX8_copyFrom 33 = .ok (.bipush 50, 2) := by decide +kernel
theorem dX8_copyFrom_35 : decode cX8_copyFrom 35 = .ok (.invokestatic 31, 3) := by decide +kernel
theorem dX8_copyFrom_38 : decode cX8_copyFrom 38 = .ok (.aload_n 1, 1) := by decide +kernel
theorem dX8_copyFrom_39 : decode cX8_copyFrom 39 = .ok (.getfield 22, 3) := by decide +kernel
theorem dX8_copyFrom_42 : decode cX8_copyFrom 42 = .ok (.iconst 0, 1) := by decide +kernel
theorem dX8_copyFrom_43 : decode cX8_copyFrom 43 = .ok (.aload_n 0, 1) := by decide +kernel
theorem dX8_copyFrom_44 : decode cX8_copyFrom 44 = .ok (.getfield 22, 3) := by decide +kernel
theorem dX8_copyFrom_47 : decode cX8_copyFrom 47 = .ok (.iconst 0, 1) := by decide +kernel
theorem dX8_copyFrom_48 : decode cX8_copyFrom 48 = .ok (.bipush 50, 2) := by decide +kernel
theorem dX8_copyFrom_50 : decode cX8_copyFrom 50 = .ok (.invokestatic 31, 3) := by decide +kernel
theorem dX8_copyFrom_53 : decode cX8_copyFrom 53 = .ok (.aload_n 1, 1) := by decide +kernel
theorem dX8_copyFrom_54 : decode cX8_copyFrom 54 = .ok (.getfield 25, 3) := by decide +kernel
theorem dX8_copyFrom_57 : decode cX8_copyFrom 57 = .ok (.iconst 0, 1) := by decide +kernel
theorem dX8_copyFrom_58 : decode cX8_copyFrom 58 = .ok (.aload_n 0, 1) := by decide +kernel
theorem dX8_copyFrom_59 : decode cX8_copyFrom 59 = .ok (.getfield 25, 3) := by decide +kernel
theorem dX8_copyFrom_62 : decode cX8_copyFrom 62 = .ok (.iconst 0, 1) := by decide +kernel
theorem dX8_copyFrom_63 : decode cX8_copyFrom 63 = .ok (.bipush 50, 2) := by decide +kernel
theorem dX8_copyFrom_65 : decode cX8_copyFrom 65 = .ok (.invokestatic 31, 3) := by decide +kernel
theorem dX8_copyFrom_68 : decode cX8_copyFrom 68 = .ok (.aload_n 1, 1) := by decide +kernel
theorem dX8_copyFrom_69 : decode cX8_copyFrom 69 = .ok (.getfield 28, 3) := by decide +kernel
theorem dX8_copyFrom_72 : decode cX8_copyFrom 72 = .ok (.iconst 0, 1) := by decide +kernel
theorem dX8_copyFrom_73 : decode cX8_copyFrom 73 = .ok (.aload_n 0, 1) := by decide +kernel
theorem dX8_copyFrom_74 : decode cX8_copyFrom 74 = .ok (.getfield 28, 3) := by decide +kernel
theorem dX8_copyFrom_77 : decode cX8_copyFrom 77 = .ok (.iconst 0, 1) := by decide +kernel
theorem dX8_copyFrom_78 : decode cX8_copyFrom 78 = .ok (.bipush 50, 2) := by decide +kernel
theorem dX8_copyFrom_80 : decode cX8_copyFrom 80 = .ok (.invokestatic 31, 3) := by decide +kernel
theorem dX8_copyFrom_83 : decode cX8_copyFrom 83 = .ok (.return_, 1) := by decide +kernel
theorem dX8_has_0 : decode cX8_has 0 = .ok (.iload_n 1, 1) := by decide +kernel
theorem dX8_has_1 : decode cX8_has 1 = .ok (.ifCond .lt 15, 3) := by decide +kernel
theorem dX8_has_4 : decode cX8_has 4 = .ok (.iload_n 1, 1) := by decide +kernel
theorem dX8_has_5 : decode cX8_has 5 = .ok (.aload_n 0, 1) := by decide +kernel
theorem dX8_has_6 : decode cX8_has 6 = .ok (.getfield 9, 3) := by decide +kernel
theorem dX8_has_9 : decode cX8_has 9 = .ok (.if_icmp .ge 7, 3) := by decide +kernel
theorem dX8_has_12 : decode cX8_has 12 = .ok (.iconst 1, 1) := by decide +kernel
theorem dX8_has_13 : decode cX8_has 13 = .ok (.goto 4, 3) := by decide +kernel
theorem dX8_has_16 : decode cX8_has 16 = .ok (.iconst 0, 1) := by decide +kernel
theorem dX8_has_17 : decode cX8_has 17 = .ok (.ireturn, 1) := by decide +kernel
theorem dX8_homeOf_0 : decode cX8_homeOf 0 = .ok (.aload_n 0, 1) := by decide +kernel
theorem dX8_homeOf_1 : decode cX8_homeOf 1 = .ok (.iload_n 1, 1) := by decide +kernel
theorem dX8_homeOf_2 : decode cX8_homeOf 2 = .ok (.invokevirtual 37, 3) := by decide +kernel
theorem dX8_homeOf_5 : decode cX8_homeOf 5 = .ok (.ifCond .eq 12, 3) := by decide +kernel
theorem dX8_homeOf_8 : decode cX8_homeOf 8 = .ok (.aload_n 0, 1) := by decide +kernel
theorem dX8_homeOf_9 : decode cX8_homeOf 9 = .ok (.getfield 28, 3) := by decide +kernel
theorem dX8_homeOf_12 : decode cX8_homeOf 12 = .ok (.iload_n 1, 1) := by decide +kernel
theorem dX8_homeOf_13 : decode cX8_homeOf 13 = .ok (.iaload, 1) := by decide +kernel
theorem dX8_homeOf_14 : decode cX8_homeOf 14 = .ok (.goto 4, 3) := by decide +kernel
theorem dX8_homeOf_17 : decode cX8_homeOf 17 = .ok (.iconst (-1), 1) := by decide +kernel
theorem dX8_homeOf_18 : decode cX8_homeOf 18 = .ok (.ireturn, 1) := by decide +kernel
theorem dX8_lookUp_0 : decode cX8_lookUp 0 = .ok (.iconst 0, 1) := by decide +kernel
theorem dX8_lookUp_1 : decode cX8_lookUp 1 = .ok (.istore 4, 2) := by decide +kernel
theorem dX8_lookUp_3 : decode cX8_lookUp 3 = .ok (.iload 4, 2) := by decide +kernel
theorem dX8_lookUp_5 : decode cX8_lookUp 5 = .ok (.aload_n 0, 1) := by decide +kernel
theorem dX8_lookUp_6 : decode cX8_lookUp 6 = .ok (.getfield 9, 3) := by decide +kernel
theorem dX8_lookUp_9 : decode cX8_lookUp 9 = .ok (.if_icmp .ge 45, 3) := by decide +kernel
theorem dX8_lookUp_12 : decode cX8_lookUp 12 = .ok (.aload_n 0, 1) := by decide +kernel
theorem dX8_lookUp_13 : decode cX8_lookUp 13 = .ok (.getfield 15, 3) := by decide +kernel
theorem dX8_lookUp_16 : decode cX8_lookUp 16 = .ok (.iload 4, 2) := by decide +kernel
theorem dX8_lookUp_18 : decode cX8_lookUp 18 = .ok (.iaload, 1) := by decide +kernel
theorem dX8_lookUp_19 : decode cX8_lookUp 19 = .ok (.iload_n 1, 1) := by decide +kernel
theorem dX8_lookUp_20 : decode cX8_lookUp 20 = .ok (.if_icmp .ne 28, 3) := by decide +kernel
theorem dX8_lookUp_23 : decode cX8_lookUp 23 = .ok (.aload_n 0, 1) := by decide +kernel
theorem dX8_lookUp_24 : decode cX8_lookUp 24 = .ok (.getfield 19, 3) := by decide +kernel
theorem dX8_lookUp_27 : decode cX8_lookUp 27 = .ok (.iload 4, 2) := by decide +kernel
theorem dX8_lookUp_29 : decode cX8_lookUp 29 = .ok (.iaload, 1) := by decide +kernel
theorem dX8_lookUp_30 : decode cX8_lookUp 30 = .ok (.iload_n 2, 1) := by decide +kernel
theorem dX8_lookUp_31 : decode cX8_lookUp 31 = .ok (.if_icmp .ne 17, 3) := by decide +kernel
theorem dX8_lookUp_34 : decode cX8_lookUp 34 = .ok (.aload_n 0, 1) := by decide +kernel
theorem dX8_lookUp_35 : decode cX8_lookUp 35 = .ok (.getfield 22, 3) := by decide +kernel
theorem dX8_lookUp_38 : decode cX8_lookUp 38 = .ok (.iload 4, 2) := by decide +kernel
theorem dX8_lookUp_40 : decode cX8_lookUp 40 = .ok (.iaload, 1) := by decide +kernel
theorem dX8_lookUp_41 : decode cX8_lookUp 41 = .ok (.iload_n 3, 1) := by decide +kernel
theorem dX8_lookUp_42 : decode cX8_lookUp 42 = .ok (.if_icmp .ne 6, 3) := by decide +kernel
theorem dX8_lookUp_45 : decode cX8_lookUp 45 = .ok (.iload 4, 2) := by decide +kernel
theorem dX8_lookUp_47 : decode cX8_lookUp 47 = .ok (.ireturn, 1) := by decide +kernel
theorem dX8_lookUp_48 : decode cX8_lookUp 48 = .ok (.iinc 4 1, 3) := by decide +kernel
theorem dX8_lookUp_51 : decode cX8_lookUp 51 = .ok (.goto (-48), 3) := by decide +kernel
theorem dX8_lookUp_54 : decode cX8_lookUp 54 = .ok (.iconst (-1), 1) := by decide +kernel
theorem dX8_lookUp_55 : decode cX8_lookUp 55 = .ok (.ireturn, 1) := by decide +kernel
theorem dX8_add_0 : decode cX8_add 0 = .ok (.aload_n 0, 1) := by decide +kernel
theorem dX8_add_1 : decode cX8_add 1 = .ok (.getfield 9, 3) := by decide +kernel
theorem dX8_add_4 : decode cX8_add 4 = .ok (.bipush 50, 2) := by decide +kernel
theorem dX8_add_6 : decode cX8_add 6 = .ok (.if_icmp .lt 5, 3) := by decide +kernel
theorem dX8_add_9 : decode cX8_add 9 = .ok (.iconst (-1), 1) := by decide +kernel
theorem dX8_add_10 : decode cX8_add 10 = .ok (.ireturn, 1) := by decide +kernel
theorem dX8_add_11 : decode cX8_add 11 = .ok (.aload_n 0, 1) := by decide +kernel
theorem dX8_add_12 : decode cX8_add 12 = .ok (.getfield 15, 3) := by decide +kernel
theorem dX8_add_15 : decode cX8_add 15 = .ok (.aload_n 0, 1) := by decide +kernel
theorem dX8_add_16 : decode cX8_add 16 = .ok (.getfield 9, 3) := by decide +kernel
theorem dX8_add_19 : decode cX8_add 19 = .ok (.iload_n 1, 1) := by decide +kernel
theorem dX8_add_20 : decode cX8_add 20 = .ok (.iastore, 1) := by decide +kernel
theorem dX8_add_21 : decode cX8_add 21 = .ok (.aload_n 0, 1) := by decide +kernel
theorem dX8_add_22 : decode cX8_add 22 = .ok (.getfield 19, 3) := by decide +kernel
theorem dX8_add_25 : decode cX8_add 25 = .ok (.aload_n 0, 1) := by decide +kernel
theorem dX8_add_26 : decode cX8_add 26 = .ok (.getfield 9, 3) := by decide +kernel
theorem dX8_add_29 : decode cX8_add 29 = .ok (.iload_n 2, 1) := by decide +kernel
theorem dX8_add_30 : decode cX8_add 30 = .ok (.iastore, 1) := by decide +kernel
theorem dX8_add_31 : decode cX8_add 31 = .ok (.aload_n 0, 1) := by decide +kernel
theorem dX8_add_32 : decode cX8_add 32 = .ok (.getfield 22, 3) := by decide +kernel
theorem dX8_add_35 : decode cX8_add 35 = .ok (.aload_n 0, 1) := by decide +kernel
theorem dX8_add_36 : decode cX8_add 36 = .ok (.getfield 9, 3) := by decide +kernel
theorem dX8_add_39 : decode cX8_add 39 = .ok (.iload_n 3, 1) := by decide +kernel
theorem dX8_add_40 : decode cX8_add 40 = .ok (.iastore, 1) := by decide +kernel
theorem dX8_add_41 : decode cX8_add 41 = .ok (.aload_n 0, 1) := by decide +kernel
theorem dX8_add_42 : decode cX8_add 42 = .ok (.getfield 25, 3) := by decide +kernel
theorem dX8_add_45 : decode cX8_add 45 = .ok (.aload_n 0, 1) := by decide +kernel
theorem dX8_add_46 : decode cX8_add 46 = .ok (.getfield 9, 3) := by decide +kernel
theorem dX8_add_49 : decode cX8_add 49 = .ok (.iload 4, 2) := by decide +kernel
theorem dX8_add_51 : decode cX8_add 51 = .ok (.iastore, 1) := by decide +kernel
theorem dX8_add_52 : decode cX8_add 52 = .ok (.aload_n 0, 1) := by decide +kernel
theorem dX8_add_53 : decode cX8_add 53 = .ok (.getfield 28, 3) := by decide +kernel
theorem dX8_add_56 : decode cX8_add 56 = .ok (.aload_n 0, 1) := by decide +kernel
theorem dX8_add_57 : decode cX8_add 57 = .ok (.getfield 9, 3) := by decide +kernel
theorem dX8_add_60 : decode cX8_add 60 = .ok (.aload_n 0, 1) := by decide +kernel
theorem dX8_add_61 : decode cX8_add 61 = .ok (.getfield 9, 3) := by decide +kernel
theorem dX8_add_64 : decode cX8_add 64 = .ok (.iastore, 1) := by decide +kernel
theorem dX8_add_65 : decode cX8_add 65 = .ok (.aload_n 0, 1) := by decide +kernel
theorem dX8_add_66 : decode cX8_add 66 = .ok (.dup, 1) := by decide +kernel
theorem dX8_add_67 : decode cX8_add 67 = .ok (.getfield 9, 3) := by decide +kernel
theorem dX8_add_70 : decode cX8_add 70 = .ok (.iconst 1, 1) := by decide +kernel
theorem dX8_add_71 : decode cX8_add 71 = .ok (.iadd, 1) := by decide +kernel
theorem dX8_add_72 : decode cX8_add 72 = .ok (.putfield 9, 3) := by decide +kernel
theorem dX8_add_75 : decode cX8_add 75 = .ok (.aload_n 0, 1) := by decide +kernel
theorem dX8_add_76 : decode cX8_add 76 = .ok (.getfield 9, 3) := by decide +kernel
theorem dX8_add_79 : decode cX8_add 79 = .ok (.iconst 1, 1) := by decide +kernel
theorem dX8_add_80 : decode cX8_add 80 = .ok (.isub, 1) := by decide +kernel
theorem dX8_add_81 : decode cX8_add 81 = .ok (.ireturn, 1) := by decide +kernel
theorem dX8_unite_0 : decode cX8_unite 0 = .ok (.aload_n 0, 1) := by decide +kernel
theorem dX8_unite_1 : decode cX8_unite 1 = .ok (.iload_n 1, 1) := by decide +kernel
theorem dX8_unite_2 : decode cX8_unite 2 = .ok (.invokevirtual 41, 3) := by decide +kernel
theorem dX8_unite_5 : decode cX8_unite 5 = .ok (.istore_n 3, 1) := by decide +kernel
theorem dX8_unite_6 : decode cX8_unite 6 = .ok (.aload_n 0, 1) := by decide +kernel
theorem dX8_unite_7 : decode cX8_unite 7 = .ok (.iload_n 2, 1) := by decide +kernel
theorem dX8_unite_8 : decode cX8_unite 8 = .ok (.invokevirtual 41, 3) := by decide +kernel
theorem dX8_unite_11 : decode cX8_unite 11 = .ok (.istore 4, 2) := by decide +kernel
theorem dX8_unite_13 : decode cX8_unite 13 = .ok (.iload_n 3, 1) := by decide +kernel
theorem dX8_unite_14 : decode cX8_unite 14 = .ok (.iload 4, 2) := by decide +kernel
theorem dX8_unite_16 : decode cX8_unite 16 = .ok (.if_icmp .eq 12, 3) := by decide +kernel
theorem dX8_unite_19 : decode cX8_unite 19 = .ok (.iload_n 3, 1) := by decide +kernel
theorem dX8_unite_20 : decode cX8_unite 20 = .ok (.ifCond .lt 8, 3) := by decide +kernel
theorem dX8_unite_23 : decode cX8_unite 23 = .ok (.iload 4, 2) := by decide +kernel
theorem dX8_unite_25 : decode cX8_unite 25 = .ok (.ifCond .ge 5, 3) := by decide +kernel
theorem dX8_unite_28 : decode cX8_unite 28 = .ok (.iconst 0, 1) := by decide +kernel
theorem dX8_unite_29 : decode cX8_unite 29 = .ok (.ireturn, 1) := by decide +kernel
theorem dX8_unite_30 : decode cX8_unite 30 = .ok (.iload_n 3, 1) := by decide +kernel
theorem dX8_unite_31 : decode cX8_unite 31 = .ok (.iload 4, 2) := by decide +kernel
theorem dX8_unite_33 : decode cX8_unite 33 = .ok (.invokestatic 45, 3) := by decide +kernel
theorem dX8_unite_36 : decode cX8_unite 36 = .ok (.istore 5, 2) := by decide +kernel
theorem dX8_unite_38 : decode cX8_unite 38 = .ok (.iload_n 3, 1) := by decide +kernel
theorem dX8_unite_39 : decode cX8_unite 39 = .ok (.iload 4, 2) := by decide +kernel
theorem dX8_unite_41 : decode cX8_unite 41 = .ok (.invokestatic 51, 3) := by decide +kernel
theorem dX8_unite_44 : decode cX8_unite 44 = .ok (.istore 6, 2) := by decide +kernel
theorem dX8_unite_46 : decode cX8_unite 46 = .ok (.iload 6, 2) := by decide +kernel
theorem dX8_unite_48 : decode cX8_unite 48 = .ok (.istore 7, 2) := by decide +kernel
theorem dX8_unite_50 : decode cX8_unite 50 = .ok (.iload 7, 2) := by decide +kernel
theorem dX8_unite_52 : decode cX8_unite 52 = .ok (.aload_n 0, 1) := by decide +kernel
theorem dX8_unite_53 : decode cX8_unite 53 = .ok (.getfield 9, 3) := by decide +kernel
theorem dX8_unite_56 : decode cX8_unite 56 = .ok (.if_icmp .ge 30, 3) := by decide +kernel
theorem dX8_unite_59 : decode cX8_unite 59 = .ok (.aload_n 0, 1) := by decide +kernel
theorem dX8_unite_60 : decode cX8_unite 60 = .ok (.getfield 28, 3) := by decide +kernel
theorem dX8_unite_63 : decode cX8_unite 63 = .ok (.iload 7, 2) := by decide +kernel
theorem dX8_unite_65 : decode cX8_unite 65 = .ok (.iaload, 1) := by decide +kernel
theorem dX8_unite_66 : decode cX8_unite 66 = .ok (.iload 6, 2) := by decide +kernel
theorem dX8_unite_68 : decode cX8_unite 68 = .ok (.if_icmp .ne 12, 3) := by decide +kernel
theorem dX8_unite_71 : decode cX8_unite 71 = .ok (.aload_n 0, 1) := by decide +kernel
theorem dX8_unite_72 : decode cX8_unite 72 = .ok (.getfield 28, 3) := by decide +kernel
theorem dX8_unite_75 : decode cX8_unite 75 = .ok (.iload 7, 2) := by decide +kernel
theorem dX8_unite_77 : decode cX8_unite 77 = .ok (.iload 5, 2) := by decide +kernel
theorem dX8_unite_79 : decode cX8_unite 79 = .ok (.iastore, 1) := by decide +kernel
theorem dX8_unite_80 : decode cX8_unite 80 = .ok (.iinc 7 1, 3) := by decide +kernel
theorem dX8_unite_83 : decode cX8_unite 83 = .ok (.goto (-33), 3) := by decide +kernel
theorem dX8_unite_86 : decode cX8_unite 86 = .ok (.iconst 1, 1) := by decide +kernel
theorem dX8_unite_87 : decode cX8_unite 87 = .ok (.ireturn, 1) := by decide +kernel
theorem dX8_countClasses_0 : decode cX8_countClasses 0 = .ok (.iconst 0, 1) := by decide +kernel
theorem dX8_countClasses_1 : decode cX8_countClasses 1 = .ok (.istore_n 2, 1) := by decide +kernel
theorem dX8_countClasses_2 : decode cX8_countClasses 2 = .ok (.iconst 0, 1) := by decide +kernel
theorem dX8_countClasses_3 : decode cX8_countClasses 3 = .ok (.istore_n 3, 1) := by decide +kernel
theorem dX8_countClasses_4 : decode cX8_countClasses 4 = .ok (.iload_n 3, 1) := by decide +kernel
theorem dX8_countClasses_5 : decode cX8_countClasses 5 = .ok (.iload_n 1, 1) := by decide +kernel
theorem dX8_countClasses_6 : decode cX8_countClasses 6 = .ok (.if_icmp .ge 30, 3) := by decide +kernel
theorem dX8_countClasses_9 : decode cX8_countClasses 9 = .ok (.iload_n 3, 1) := by decide +kernel
theorem dX8_countClasses_10 : decode cX8_countClasses 10 = .ok (.aload_n 0, 1) := by decide +kernel
theorem dX8_countClasses_11 : decode cX8_countClasses 11 = .ok (.getfield 9, 3) := by decide +kernel
theorem dX8_countClasses_14 : decode cX8_countClasses 14 = .ok (.if_icmp .ge 22, 3) := by decide +kernel
theorem dX8_countClasses_17 : decode cX8_countClasses 17 = .ok (.aload_n 0, 1) := by decide +kernel
theorem dX8_countClasses_18 : decode cX8_countClasses 18 = .ok (.getfield 28, 3) := by decide +kernel
theorem dX8_countClasses_21 : decode cX8_countClasses 21 = .ok (.iload_n 3, 1) := by decide +kernel
theorem dX8_countClasses_22 : decode cX8_countClasses 22 = .ok (.iaload, 1) := by decide +kernel
theorem dX8_countClasses_23 : decode cX8_countClasses 23 = .ok (.iload_n 3, 1) := by decide +kernel
theorem dX8_countClasses_24 : decode cX8_countClasses 24 = .ok (.if_icmp .ne 6, 3) := by decide +kernel
theorem dX8_countClasses_27 : decode cX8_countClasses 27 = .ok (.iinc 2 1, 3) := by decide +kernel
theorem dX8_countClasses_30 : decode cX8_countClasses 30 = .ok (.iinc 3 1, 3) := by decide +kernel
theorem dX8_countClasses_33 : decode cX8_countClasses 33 = .ok (.goto (-29), 3) := by decide +kernel
theorem dX8_countClasses_36 : decode cX8_countClasses 36 = .ok (.iload_n 2, 1) := by decide +kernel
theorem dX8_countClasses_37 : decode cX8_countClasses 37 = .ok (.ireturn, 1) := by decide +kernel
theorem dX8_countIn_0 : decode cX8_countIn 0 = .ok (.iconst 0, 1) := by decide +kernel
theorem dX8_countIn_1 : decode cX8_countIn 1 = .ok (.istore_n 2, 1) := by decide +kernel
theorem dX8_countIn_2 : decode cX8_countIn 2 = .ok (.iconst 0, 1) := by decide +kernel
theorem dX8_countIn_3 : decode cX8_countIn 3 = .ok (.istore_n 3, 1) := by decide +kernel
theorem dX8_countIn_4 : decode cX8_countIn 4 = .ok (.iload_n 3, 1) := by decide +kernel
theorem dX8_countIn_5 : decode cX8_countIn 5 = .ok (.aload_n 0, 1) := by decide +kernel
theorem dX8_countIn_6 : decode cX8_countIn 6 = .ok (.getfield 9, 3) := by decide +kernel
theorem dX8_countIn_9 : decode cX8_countIn 9 = .ok (.if_icmp .ge 22, 3) := by decide +kernel
theorem dX8_countIn_12 : decode cX8_countIn 12 = .ok (.aload_n 0, 1) := by decide +kernel
theorem dX8_countIn_13 : decode cX8_countIn 13 = .ok (.getfield 28, 3) := by decide +kernel
theorem dX8_countIn_16 : decode cX8_countIn 16 = .ok (.iload_n 3, 1) := by decide +kernel
theorem dX8_countIn_17 : decode cX8_countIn 17 = .ok (.iaload, 1) := by decide +kernel
theorem dX8_countIn_18 : decode cX8_countIn 18 = .ok (.iload_n 1, 1) := by decide +kernel
theorem dX8_countIn_19 : decode cX8_countIn 19 = .ok (.if_icmp .ne 6, 3) := by decide +kernel
theorem dX8_countIn_22 : decode cX8_countIn 22 = .ok (.iinc 2 1, 3) := by decide +kernel
theorem dX8_countIn_25 : decode cX8_countIn 25 = .ok (.iinc 3 1, 3) := by decide +kernel
theorem dX8_countIn_28 : decode cX8_countIn 28 = .ok (.goto (-24), 3) := by decide +kernel
theorem dX8_countIn_31 : decode cX8_countIn 31 = .ok (.iload_n 2, 1) := by decide +kernel
theorem dX8_countIn_32 : decode cX8_countIn 32 = .ok (.ireturn, 1) := by decide +kernel
theorem dX8_countUsers_0 : decode cX8_countUsers 0 = .ok (.iconst 0, 1) := by decide +kernel
theorem dX8_countUsers_1 : decode cX8_countUsers 1 = .ok (.istore_n 2, 1) := by decide +kernel
theorem dX8_countUsers_2 : decode cX8_countUsers 2 = .ok (.iconst 0, 1) := by decide +kernel
theorem dX8_countUsers_3 : decode cX8_countUsers 3 = .ok (.istore_n 3, 1) := by decide +kernel
theorem dX8_countUsers_4 : decode cX8_countUsers 4 = .ok (.iload_n 3, 1) := by decide +kernel
theorem dX8_countUsers_5 : decode cX8_countUsers 5 = .ok (.aload_n 0, 1) := by decide +kernel
theorem dX8_countUsers_6 : decode cX8_countUsers 6 = .ok (.getfield 9, 3) := by decide +kernel
theorem dX8_countUsers_9 : decode cX8_countUsers 9 = .ok (.if_icmp .ge 40, 3) := by decide +kernel
theorem dX8_countUsers_12 : decode cX8_countUsers 12 = .ok (.aload_n 0, 1) := by decide +kernel
theorem dX8_countUsers_13 : decode cX8_countUsers 13 = .ok (.aload_n 0, 1) := by decide +kernel
theorem dX8_countUsers_14 : decode cX8_countUsers 14 = .ok (.getfield 19, 3) := by decide +kernel
theorem dX8_countUsers_17 : decode cX8_countUsers 17 = .ok (.iload_n 3, 1) := by decide +kernel
theorem dX8_countUsers_18 : decode cX8_countUsers 18 = .ok (.iaload, 1) := by decide +kernel
theorem dX8_countUsers_19 : decode cX8_countUsers 19 = .ok (.invokevirtual 41, 3) := by decide +kernel
theorem dX8_countUsers_22 : decode cX8_countUsers 22 = .ok (.iload_n 1, 1) := by decide +kernel
theorem dX8_countUsers_23 : decode cX8_countUsers 23 = .ok (.if_icmp .eq 17, 3) := by decide +kernel
theorem dX8_countUsers_26 : decode cX8_countUsers 26 = .ok (.aload_n 0, 1) := by decide +kernel
theorem dX8_countUsers_27 : decode cX8_countUsers 27 = .ok (.aload_n 0, 1) := by decide +kernel
theorem dX8_countUsers_28 : decode cX8_countUsers 28 = .ok (.getfield 22, 3) := by decide +kernel
theorem dX8_countUsers_31 : decode cX8_countUsers 31 = .ok (.iload_n 3, 1) := by decide +kernel
theorem dX8_countUsers_32 : decode cX8_countUsers 32 = .ok (.iaload, 1) := by decide +kernel
theorem dX8_countUsers_33 : decode cX8_countUsers 33 = .ok (.invokevirtual 41, 3) := by decide +kernel
theorem dX8_countUsers_36 : decode cX8_countUsers 36 = .ok (.iload_n 1, 1) := by decide +kernel
theorem dX8_countUsers_37 : decode cX8_countUsers 37 = .ok (.if_icmp .ne 6, 3) := by decide +kernel
theorem dX8_countUsers_40 : decode cX8_countUsers 40 = .ok (.iinc 2 1, 3) := by decide +kernel
theorem dX8_countUsers_43 : decode cX8_countUsers 43 = .ok (.iinc 3 1, 3) := by decide +kernel
theorem dX8_countUsers_46 : decode cX8_countUsers 46 = .ok (.goto (-42), 3) := by decide +kernel
theorem dX8_countUsers_49 : decode cX8_countUsers 49 = .ok (.iload_n 2, 1) := by decide +kernel
theorem dX8_countUsers_50 : decode cX8_countUsers 50 = .ok (.ireturn, 1) := by decide +kernel
theorem dX8_leastGeneration_0 : decode cX8_leastGeneration 0 = .ok (.bipush 9, 2) := by decide +kernel
theorem dX8_leastGeneration_2 : decode cX8_leastGeneration 2 = .ok (.istore_n 2, 1) := by decide +kernel
theorem dX8_leastGeneration_3 : decode cX8_leastGeneration 3 = .ok (.iconst 0, 1) := by decide +kernel
theorem dX8_leastGeneration_4 : decode cX8_leastGeneration 4 = .ok (.istore_n 3, 1) := by decide +kernel
theorem dX8_leastGeneration_5 : decode cX8_leastGeneration 5 = .ok (.iload_n 3, 1) := by decide +kernel
theorem dX8_leastGeneration_6 : decode cX8_leastGeneration 6 = .ok (.aload_n 0, 1) := by decide +kernel
theorem dX8_leastGeneration_7 : decode cX8_leastGeneration 7 = .ok (.getfield 9, 3) := by decide +kernel
theorem dX8_leastGeneration_10 : decode cX8_leastGeneration 10 = .ok (.if_icmp .ge 30, 3) := by decide +kernel
theorem dX8_leastGeneration_13 : decode cX8_leastGeneration 13 = .ok (.aload_n 0, 1) := by decide +kernel
theorem dX8_leastGeneration_14 : decode cX8_leastGeneration 14 = .ok (.getfield 28, 3) := by decide +kernel
theorem dX8_leastGeneration_17 : decode cX8_leastGeneration 17 = .ok (.iload_n 3, 1) := by decide +kernel
theorem dX8_leastGeneration_18 : decode cX8_leastGeneration 18 = .ok (.iaload, 1) := by decide +kernel
theorem dX8_leastGeneration_19 : decode cX8_leastGeneration 19 = .ok (.iload_n 1, 1) := by decide +kernel
theorem dX8_leastGeneration_20 : decode cX8_leastGeneration 20 = .ok (.if_icmp .ne 14, 3) := by decide +kernel
theorem dX8_leastGeneration_23 : decode cX8_leastGeneration 23 = .ok (.iload_n 2, 1) := by decide +kernel
theorem dX8_leastGeneration_24 : decode cX8_leastGeneration 24 = .ok (.aload_n 0, 1) := by decide +kernel
theorem dX8_leastGeneration_25 : decode cX8_leastGeneration 25 = .ok (.getfield 25, 3) := by decide +kernel
theorem dX8_leastGeneration_28 : decode cX8_leastGeneration 28 = .ok (.iload_n 3, 1) := by decide +kernel
theorem dX8_leastGeneration_29 : decode cX8_leastGeneration 29 = .ok (.iaload, 1) := by decide +kernel
theorem dX8_leastGeneration_30 : decode cX8_leastGeneration 30 = .ok (.invokestatic 45, 3) := by decide +kernel
theorem dX8_leastGeneration_33 : decode cX8_leastGeneration 33 = .ok (.istore_n 2, 1) := by decide +kernel
theorem dX8_leastGeneration_34 : decode cX8_leastGeneration 34 = .ok (.iinc 3 1, 3) := by decide +kernel
theorem dX8_leastGeneration_37 : decode cX8_leastGeneration 37 = .ok (.goto (-32), 3) := by decide +kernel
theorem dX8_leastGeneration_40 : decode cX8_leastGeneration 40 = .ok (.iload_n 2, 1) := by decide +kernel
theorem dX8_leastGeneration_41 : decode cX8_leastGeneration 41 = .ok (.ireturn, 1) := by decide +kernel
theorem dX9_init_0 : decode cX9_init 0 = .ok (.aload_n 0, 1) := by decide +kernel
theorem dX9_init_1 : decode cX9_init 1 = .ok (.invokespecial 3, 3) := by decide +kernel
theorem dX9_init_4 : decode cX9_init 4 = .ok (.aload_n 0, 1) := by decide +kernel
theorem dX9_init_5 : decode cX9_init 5 = .ok (.bipush 120, 2) := by decide +kernel
theorem dX9_init_7 : decode cX9_init 7 = .ok (.newarray .int, 2) := by decide +kernel
theorem dX9_init_9 : decode cX9_init 9 = .ok (.putfield 9, 3) := by decide +kernel
theorem dX9_init_12 : decode cX9_init 12 = .ok (.aload_n 0, 1) := by decide +kernel
theorem dX9_init_13 : decode cX9_init 13 = .ok (.iconst 0, 1) := by decide +kernel
theorem dX9_init_14 : decode cX9_init 14 = .ok (.putfield 15, 3) := by decide +kernel
theorem dX9_init_17 : decode cX9_init 17 = .ok (.aload_n 0, 1) := by decide +kernel
theorem dX9_init_18 : decode cX9_init 18 = .ok (.new 19, 3) := by decide +kernel
theorem dX9_init_21 : decode cX9_init 21 = .ok (.dup, 1) := by decide +kernel
theorem dX9_init_22 : decode cX9_init 22 = .ok (.bipush 120, 2) := by decide +kernel
theorem dX9_init_24 : decode cX9_init 24 = .ok (.invokespecial 21, 3) := by decide +kernel
theorem dX9_init_27 : decode cX9_init 27 = .ok (.putfield 24, 3) := by decide +kernel
theorem dX9_init_30 : decode cX9_init 30 = .ok (.aload_n 0, 1) := by decide +kernel
theorem dX9_init_31 : decode cX9_init 31 = .ok (.bipush 120, 2) := by decide +kernel
theorem dX9_init_33 : decode cX9_init 33 = .ok (.newarray .int, 2) := by decide +kernel
theorem dX9_init_35 : decode cX9_init 35 = .ok (.putfield 28, 3) := by decide +kernel
theorem dX9_init_38 : decode cX9_init 38 = .ok (.aload_n 0, 1) := by decide +kernel
theorem dX9_init_39 : decode cX9_init 39 = .ok (.bipush 120, 2) := by decide +kernel
theorem dX9_init_41 : decode cX9_init 41 = .ok (.newarray .int, 2) := by decide +kernel
theorem dX9_init_43 : decode cX9_init 43 = .ok (.putfield 31, 3) := by decide +kernel
theorem dX9_init_46 : decode cX9_init 46 = .ok (.aload_n 0, 1) := by decide +kernel
theorem dX9_init_47 : decode cX9_init 47 = .ok (.iconst 0, 1) := by decide +kernel
theorem dX9_init_48 : decode cX9_init 48 = .ok (.putfield 34, 3) := by decide +kernel
theorem dX9_init_51 : decode cX9_init 51 = .ok (.aload_n 0, 1) := by decide +kernel
theorem dX9_init_52 : decode cX9_init 52 = .ok (.iconst 0, 1) := by decide +kernel
theorem dX9_init_53 : decode cX9_init 53 = .ok (.putfield 37, 3) := by decide +kernel
theorem dX9_init_56 : decode cX9_init 56 = .ok (.aload_n 0, 1) := by decide +kernel
theorem dX9_init_57 : decode cX9_init 57 = .ok (.aload_n 1, 1) := by decide +kernel
theorem dX9_init_58 : decode cX9_init 58 = .ok (.putfield 40, 3) := by decide +kernel
theorem dX9_init_61 : decode cX9_init 61 = .ok (.aload_n 0, 1) := by decide +kernel
theorem dX9_init_62 : decode cX9_init 62 = .ok (.aload_n 2, 1) := by decide +kernel
theorem dX9_init_63 : decode cX9_init 63 = .ok (.putfield 44, 3) := by decide +kernel
theorem dX9_init_66 : decode cX9_init 66 = .ok (.return_, 1) := by decide +kernel
theorem dX9_read_0 : decode cX9_read 0 = .ok (.aload_n 0, 1) := by decide +kernel
theorem dX9_read_1 : decode cX9_read 1 = .ok (.iconst 0, 1) := by decide +kernel
theorem dX9_read_2 : decode cX9_read 2 = .ok (.putfield 37, 3) := by decide +kernel
theorem dX9_read_5 : decode cX9_read 5 = .ok (.iconst 0, 1) := by decide +kernel
theorem dX9_read_6 : decode cX9_read 6 = .ok (.istore_n 1, 1) := by decide +kernel
theorem dX9_read_7 : decode cX9_read 7 = .ok (.iload_n 1, 1) := by decide +kernel
theorem dX9_read_8 : decode cX9_read 8 = .ok (.bipush 120, 2) := by decide +kernel
theorem dX9_read_10 : decode cX9_read 10 = .ok (.if_icmp .ge 32, 3) := by decide +kernel
theorem dX9_read_13 : decode cX9_read 13 = .ok (.aload_n 0, 1) := by decide +kernel
theorem dX9_read_14 : decode cX9_read 14 = .ok (.invokevirtual 48, 3) := by decide +kernel
theorem dX9_read_17 : decode cX9_read 17 = .ok (.iconst (-1), 1) := by decide +kernel
theorem dX9_read_18 : decode cX9_read 18 = .ok (.if_icmp .eq 24, 3) := by decide +kernel
theorem dX9_read_21 : decode cX9_read 21 = .ok (.aload_n 0, 1) := by decide +kernel
theorem dX9_read_22 : decode cX9_read 22 = .ok (.invokevirtual 52, 3) := by decide +kernel
theorem dX9_read_25 : decode cX9_read 25 = .ok (.ifCond .ne 11, 3) := by decide +kernel
theorem dX9_read_28 : decode cX9_read 28 = .ok (.bipush (-10), 2) := by decide +kernel
theorem dX9_read_30 : decode cX9_read 30 = .ok (.aload_n 0, 1) := by decide +kernel
theorem dX9_read_31 : decode cX9_read 31 = .ok (.getfield 37, 3) := by decide +kernel
theorem dX9_read_34 : decode cX9_read 34 = .ok (.isub, 1) := by decide +kernel
theorem dX9_read_35 : decode cX9_read 35 = .ok (.ireturn, 1) := by decide +kernel
theorem dX9_read_36 : decode cX9_read 36 = .ok (.iinc 1 1, 3) := by decide +kernel
theorem dX9_read_39 : decode cX9_read 39 = .ok (.goto (-32), 3) := by decide +kernel
theorem dX9_read_42 : decode cX9_read 42 = .ok (.iload_n 1, 1) := by decide +kernel
theorem dX9_read_43 : decode cX9_read 43 = .ok (.ifCond .ne 13, 3) := by decide +kernel
theorem dX9_read_46 : decode cX9_read 46 = .ok (.bipush (-10), 2) := by decide +kernel
theorem dX9_read_48 : decode cX9_read 48 = .ok (.aload_n 0, 1) := by decide +kernel
theorem dX9_read_49 : decode cX9_read 49 = .ok (.getfield 37, 3) := by decide +kernel
theorem dX9_read_52 : decode cX9_read 52 = .ok (.isub, 1) := by decide +kernel
theorem dX9_read_53 : decode cX9_read 53 = .ok (.goto 4, 3) := by decide +kernel
theorem dX9_read_56 : decode cX9_read 56 = .ok (.iload_n 1, 1) := by decide +kernel
theorem dX9_read_57 : decode cX9_read 57 = .ok (.ireturn, 1) := by decide +kernel
theorem dX9_peek_0 : decode cX9_peek 0 = .ok (.aload_n 0, 1) := by decide +kernel
theorem dX9_peek_1 : decode cX9_peek 1 = .ok (.getfield 37, 3) := by decide +kernel
theorem dX9_peek_4 : decode cX9_peek 4 = .ok (.aload_n 0, 1) := by decide +kernel
theorem dX9_peek_5 : decode cX9_peek 5 = .ok (.getfield 15, 3) := by decide +kernel
theorem dX9_peek_8 : decode cX9_peek 8 = .ok (.if_icmp .ge 30, 3) := by decide +kernel
theorem dX9_peek_11 : decode cX9_peek 11 = .ok (.aload_n 0, 1) := by decide +kernel
theorem dX9_peek_12 : decode cX9_peek 12 = .ok (.getfield 9, 3) := by decide +kernel
theorem dX9_peek_15 : decode cX9_peek 15 = .ok (.aload_n 0, 1) := by decide +kernel
theorem dX9_peek_16 : decode cX9_peek 16 = .ok (.getfield 37, 3) := by decide +kernel
theorem dX9_peek_19 : decode cX9_peek 19 = .ok (.iaload, 1) := by decide +kernel
theorem dX9_peek_20 : decode cX9_peek 20 = .ok (.bipush 32, 2) := by decide +kernel
theorem dX9_peek_22 : decode cX9_peek 22 = .ok (.if_icmp .ne 16, 3) := by decide +kernel
theorem dX9_peek_25 : decode cX9_peek 25 = .ok (.aload_n 0, 1) := by decide +kernel
theorem dX9_peek_26 : decode cX9_peek 26 = .ok (.dup, 1) := by decide +kernel
theorem dX9_peek_27 : decode cX9_peek 27 = .ok (.getfield 37, 3) := by decide +kernel
theorem dX9_peek_30 : decode cX9_peek 30 = .ok (.iconst 1, 1) := by decide +kernel
theorem dX9_peek_31 : decode cX9_peek 31 = .ok (.iadd, 1) := by decide +kernel
theorem dX9_peek_32 : decode cX9_peek 32 = .ok (.putfield 37, 3) := by decide +kernel
theorem dX9_peek_35 : decode cX9_peek 35 = .ok (.goto (-35), 3) := by decide +kernel
theorem dX9_peek_38 : decode cX9_peek 38 = .ok (.aload_n 0, 1) := by decide +kernel
theorem dX9_peek_39 : decode cX9_peek 39 = .ok (.getfield 37, 3) := by decide +kernel
theorem dX9_peek_42 : decode cX9_peek 42 = .ok (.aload_n 0, 1) := by decide +kernel
theorem dX9_peek_43 : decode cX9_peek 43 = .ok (.getfield 15, 3) := by decide +kernel
theorem dX9_peek_46 : decode cX9_peek 46 = .ok (.if_icmp .ge 15, 3) := by decide +kernel
theorem dX9_peek_49 : decode cX9_peek 49 = .ok (.aload_n 0, 1) := by decide +kernel
theorem dX9_peek_50 : decode cX9_peek 50 = .ok (.getfield 9, 3) := by decide +kernel
theorem dX9_peek_53 : decode cX9_peek 53 = .ok (.aload_n 0, 1) := by decide +kernel
theorem dX9_peek_54 : decode cX9_peek 54 = .ok (.getfield 37, 3) := by decide +kernel
theorem dX9_peek_57 : decode cX9_peek 57 = .ok (.iaload, 1) := by decide +kernel
theorem dX9_peek_58 : decode cX9_peek 58 = .ok (.goto 4, 3) := by decide +kernel
theorem dX9_peek_61 : decode cX9_peek 61 = .ok (.iconst (-1), 1) := by decide +kernel
theorem dX9_peek_62 : decode cX9_peek 62 = .ok (.ireturn, 1) := by decide +kernel
theorem dX9_take_0 : decode cX9_take 0 = .ok (.aload_n 0, 1) := by decide +kernel
theorem dX9_take_1 : decode cX9_take 1 = .ok (.invokevirtual 48, 3) := by decide +kernel
theorem dX9_take_4 : decode cX9_take 4 = .ok (.iload_n 1, 1) := by decide +kernel
theorem dX9_take_5 : decode cX9_take 5 = .ok (.if_icmp .eq 5, 3) := by decide +kernel
theorem dX9_take_8 : decode cX9_take 8 = .ok (.iconst 0, 1) := by decide +kernel
theorem dX9_take_9 : decode cX9_take 9 = .ok (.ireturn, 1) := by decide +kernel
theorem dX9_take_10 : decode cX9_take 10 = .ok (.aload_n 0, 1) := by decide +kernel
theorem dX9_take_11 : decode cX9_take 11 = .ok (.dup, 1) := by decide +kernel
theorem dX9_take_12 : decode cX9_take 12 = .ok (.getfield 37, 3) := by decide +kernel
theorem dX9_take_15 : decode cX9_take 15 = .ok (.iconst 1, 1) := by decide +kernel
theorem dX9_take_16 : decode cX9_take 16 = .ok (.iadd, 1) := by decide +kernel
theorem dX9_take_17 : decode cX9_take 17 = .ok (.putfield 37, 3) := by decide +kernel
theorem dX9_take_20 : decode cX9_take 20 = .ok (.iconst 1, 1) := by decide +kernel
theorem dX9_take_21 : decode cX9_take 21 = .ok (.ireturn, 1) := by decide +kernel
theorem dX9_sentence_0 : decode cX9_sentence 0 = .ok (.aload_n 0, 1) := by decide +kernel
theorem dX9_sentence_1 : decode cX9_sentence 1 = .ok (.getfield 24, 3) := by decide +kernel
theorem dX9_sentence_4 : decode cX9_sentence 4 = .ok (.invokevirtual 56, 3) := by decide +kernel
theorem dX9_sentence_7 : decode cX9_sentence 7 = .ok (.aload_n 0, 1) := by decide +kernel
theorem dX9_sentence_8 : decode cX9_sentence 8 = .ok (.bipush 7, 2) := by decide +kernel
theorem dX9_sentence_10 : decode cX9_sentence 10 = .ok (.invokevirtual 59, 3) := by decide +kernel
theorem dX9_sentence_13 : decode cX9_sentence 13 = .ok (.ifCond .ne 5, 3) := by decide +kernel
theorem dX9_sentence_16 : decode cX9_sentence 16 = .ok (.iconst 0, 1) := by decide +kernel
theorem dX9_sentence_17 : decode cX9_sentence 17 = .ok (.ireturn, 1) := by decide +kernel
theorem dX9_sentence_18 : decode cX9_sentence 18 = .ok (.aload_n 0, 1) := by decide +kernel
theorem dX9_sentence_19 : decode cX9_sentence 19 = .ok (.getfield 24, 3) := by decide +kernel
theorem dX9_sentence_22 : decode cX9_sentence 22 = .ok (.aload_n 0, 1) := by decide +kernel
theorem dX9_sentence_23 : decode cX9_sentence 23 = .ok (.getfield 24, 3) := by decide +kernel
theorem dX9_sentence_26 : decode cX9_sentence 26 = .ok (.getfield 63, 3) := by decide +kernel
theorem dX9_sentence_29 : decode cX9_sentence 29 = .ok (.putfield 66, 3) := by decide +kernel
theorem dX9_sentence_32 : decode cX9_sentence 32 = .ok (.aload_n 0, 1) := by decide +kernel
theorem dX9_sentence_33 : decode cX9_sentence 33 = .ok (.getfield 24, 3) := by decide +kernel
theorem dX9_sentence_36 : decode cX9_sentence 36 = .ok (.iconst 0, 1) := by decide +kernel
theorem dX9_sentence_37 : decode cX9_sentence 37 = .ok (.aload_n 0, 1) := by decide +kernel
theorem dX9_sentence_38 : decode cX9_sentence 38 = .ok (.getfield 24, 3) := by decide +kernel
theorem dX9_sentence_41 : decode cX9_sentence 41 = .ok (.getfield 66, 3) := by decide +kernel
theorem dX9_sentence_44 : decode cX9_sentence 44 = .ok (.invokevirtual 69, 3) := by decide +kernel
theorem dX9_sentence_47 : decode cX9_sentence 47 = .ok (.istore_n 1, 1) := by decide +kernel
theorem dX9_sentence_48 : decode cX9_sentence 48 = .ok (.aload_n 0, 1) := by decide +kernel
theorem dX9_sentence_49 : decode cX9_sentence 49 = .ok (.invokevirtual 48, 3) := by decide +kernel
theorem dX9_sentence_52 : decode cX9_sentence 52 = .ok (.bipush 62, 2) := by decide +kernel
theorem dX9_sentence_54 : decode cX9_sentence 54 = .ok (.if_icmp .ne 9, 3) := by decide +kernel
theorem dX9_sentence_57 : decode cX9_sentence 57 = .ok (.aload_n 0, 1) := by decide +kernel
theorem dX9_sentence_58 : decode cX9_sentence 58 = .ok (.iload_n 1, 1) := by decide +kernel
theorem dX9_sentence_59 : decode cX9_sentence 59 = .ok (.invokevirtual 73, 3) := by decide +kernel
theorem dX9_sentence_62 : decode cX9_sentence 62 = .ok (.ireturn, 1) := by decide +kernel
theorem dX9_sentence_63 : decode cX9_sentence 63 = .ok (.iload_n 1, 1) := by decide +kernel
theorem dX9_sentence_64 : decode cX9_sentence 64 = .ok (.ifCond .eq 5, 3) := by decide +kernel
theorem dX9_sentence_67 : decode cX9_sentence 67 = .ok (.iconst 0, 1) := by decide +kernel
theorem dX9_sentence_68 : decode cX9_sentence 68 = .ok (.ireturn, 1) := by decide +kernel
theorem dX9_sentence_69 : decode cX9_sentence 69 = .ok (.aload_n 0, 1) := by decide +kernel
theorem dX9_sentence_70 : decode cX9_sentence 70 = .ok (.bipush 61, 2) := by decide +kernel
theorem dX9_sentence_72 : decode cX9_sentence 72 = .ok (.invokevirtual 76, 3) := by decide +kernel
theorem dX9_sentence_75 : decode cX9_sentence 75 = .ok (.ifCond .eq 14, 3) := by decide +kernel
theorem dX9_sentence_78 : decode cX9_sentence 78 = .ok (.aload_n 0, 1) := by decide +kernel
theorem dX9_sentence_79 : decode cX9_sentence 79 = .ok (.bipush 7, 2) := by decide +kernel
theorem dX9_sentence_81 : decode cX9_sentence 81 = .ok (.invokevirtual 59, 3) := by decide +kernel
theorem dX9_sentence_84 : decode cX9_sentence 84 = .ok (.ifCond .ne 5, 3) := by decide +kernel
theorem dX9_sentence_87 : decode cX9_sentence 87 = .ok (.iconst 0, 1) := by decide +kernel
theorem dX9_sentence_88 : decode cX9_sentence 88 = .ok (.ireturn, 1) := by decide +kernel
theorem dX9_sentence_89 : decode cX9_sentence 89 = .ok (.aload_n 0, 1) := by decide +kernel
theorem dX9_sentence_90 : decode cX9_sentence 90 = .ok (.invokevirtual 79, 3) := by decide +kernel
theorem dX9_sentence_93 : decode cX9_sentence 93 = .ok (.ireturn, 1) := by decide +kernel
theorem dX9_ruleSentence_0 : decode cX9_ruleSentence 0 = .ok (.aload_n 0, 1) := by decide +kernel
theorem dX9_ruleSentence_1 : decode cX9_ruleSentence 1 = .ok (.getfield 24, 3) := by decide +kernel
theorem dX9_ruleSentence_4 : decode cX9_ruleSentence 4 = .ok (.getfield 66, 3) := by decide +kernel
theorem dX9_ruleSentence_7 : decode cX9_ruleSentence 7 = .ok (.iconst 1, 1) := by decide +kernel
theorem dX9_ruleSentence_8 : decode cX9_ruleSentence 8 = .ok (.if_icmp .ne 11, 3) := by decide +kernel
theorem dX9_ruleSentence_11 : decode cX9_ruleSentence 11 = .ok (.iload_n 1, 1) := by decide +kernel
theorem dX9_ruleSentence_12 : decode cX9_ruleSentence 12 = .ok (.ifCond .eq 7, 3) := by decide +kernel
theorem dX9_ruleSentence_15 : decode cX9_ruleSentence 15 = .ok (.iconst 1, 1) := by decide +kernel
theorem dX9_ruleSentence_16 : decode cX9_ruleSentence 16 = .ok (.goto 4, 3) := by decide +kernel
theorem dX9_ruleSentence_19 : decode cX9_ruleSentence 19 = .ok (.iconst 0, 1) := by decide +kernel
theorem dX9_ruleSentence_20 : decode cX9_ruleSentence 20 = .ok (.istore_n 2, 1) := by decide +kernel
theorem dX9_ruleSentence_21 : decode cX9_ruleSentence 21 = .ok (.iload_n 2, 1) := by decide +kernel
theorem dX9_ruleSentence_22 : decode cX9_ruleSentence 22 = .ok (.ifCond .ne 24, 3) := by decide +kernel
theorem dX9_ruleSentence_25 : decode cX9_ruleSentence 25 = .ok (.aload_n 0, 1) := by decide +kernel
theorem dX9_ruleSentence_26 : decode cX9_ruleSentence 26 = .ok (.getfield 40, 3) := by decide +kernel
theorem dX9_ruleSentence_29 : decode cX9_ruleSentence 29 = .ok (.getfield 82, 3) := by decide +kernel
theorem dX9_ruleSentence_32 : decode cX9_ruleSentence 32 = .ok (.bipush 6, 2) := by decide +kernel
theorem dX9_ruleSentence_34 : decode cX9_ruleSentence 34 = .ok (.if_icmp .ge 12, 3) := by decide +kernel
theorem dX9_ruleSentence_37 : decode cX9_ruleSentence 37 = .ok (.aload_n 0, 1) := by decide +kernel
theorem dX9_ruleSentence_38 : decode cX9_ruleSentence 38 = .ok (.bipush 62, 2) := by decide +kernel
theorem dX9_ruleSentence_40 : decode cX9_ruleSentence 40 = .ok (.invokevirtual 76, 3) := by decide +kernel
theorem dX9_ruleSentence_43 : decode cX9_ruleSentence 43 = .ok (.ifCond .ne 5, 3) := by decide +kernel
theorem dX9_ruleSentence_46 : decode cX9_ruleSentence 46 = .ok (.iconst 0, 1) := by decide +kernel
theorem dX9_ruleSentence_47 : decode cX9_ruleSentence 47 = .ok (.ireturn, 1) := by decide +kernel
theorem dX9_ruleSentence_48 : decode cX9_ruleSentence 48 = .ok (.aload_n 0, 1) := by decide +kernel
theorem dX9_ruleSentence_49 : decode cX9_ruleSentence 49 = .ok (.iload_n 1, 1) := by decide +kernel
theorem dX9_ruleSentence_50 : decode cX9_ruleSentence 50 = .ok (.invokevirtual 59, 3) := by decide +kernel
theorem dX9_ruleSentence_53 : decode cX9_ruleSentence 53 = .ok (.ifCond .eq 12, 3) := by decide +kernel
theorem dX9_ruleSentence_56 : decode cX9_ruleSentence 56 = .ok (.aload_n 0, 1) := by decide +kernel
theorem dX9_ruleSentence_57 : decode cX9_ruleSentence 57 = .ok (.bipush 59, 2) := by decide +kernel
theorem dX9_ruleSentence_59 : decode cX9_ruleSentence 59 = .ok (.invokevirtual 76, 3) := by decide +kernel
theorem dX9_ruleSentence_62 : decode cX9_ruleSentence 62 = .ok (.ifCond .ne 5, 3) := by decide +kernel
theorem dX9_ruleSentence_65 : decode cX9_ruleSentence 65 = .ok (.iconst 0, 1) := by decide +kernel
theorem dX9_ruleSentence_66 : decode cX9_ruleSentence 66 = .ok (.ireturn, 1) := by decide +kernel
theorem dX9_ruleSentence_67 : decode cX9_ruleSentence 67 = .ok (.aload_n 0, 1) := by decide +kernel
theorem dX9_ruleSentence_68 : decode cX9_ruleSentence 68 = .ok (.getfield 40, 3) := by decide +kernel
theorem dX9_ruleSentence_71 : decode cX9_ruleSentence 71 = .ok (.aload_n 0, 1) := by decide +kernel
theorem dX9_ruleSentence_72 : decode cX9_ruleSentence 72 = .ok (.getfield 24, 3) := by decide +kernel
theorem dX9_ruleSentence_75 : decode cX9_ruleSentence 75 = .ok (.invokevirtual 87, 3) := by decide +kernel
theorem dX9_ruleSentence_78 : decode cX9_ruleSentence 78 = .ok (.invokevirtual 91, 3) := by decide +kernel
theorem dX9_ruleSentence_81 : decode cX9_ruleSentence 81 = .ok (.iconst 1, 1) := by decide +kernel
theorem dX9_ruleSentence_82 : decode cX9_ruleSentence 82 = .ok (.ireturn, 1) := by decide +kernel
theorem dX9_termSentence_0 : decode cX9_termSentence 0 = .ok (.aload_n 0, 1) := by decide +kernel
theorem dX9_termSentence_1 : decode cX9_termSentence 1 = .ok (.invokevirtual 48, 3) := by decide +kernel
theorem dX9_termSentence_4 : decode cX9_termSentence 4 = .ok (.bipush 59, 2) := by decide +kernel
theorem dX9_termSentence_6 : decode cX9_termSentence 6 = .ok (.if_icmp .ne 21, 3) := by decide +kernel
theorem dX9_termSentence_9 : decode cX9_termSentence 9 = .ok (.aload_n 0, 1) := by decide +kernel
theorem dX9_termSentence_10 : decode cX9_termSentence 10 = .ok (.getfield 24, 3) := by decide +kernel
theorem dX9_termSentence_13 : decode cX9_termSentence 13 = .ok (.iconst 0, 1) := by decide +kernel
theorem dX9_termSentence_14 : decode cX9_termSentence 14 = .ok (.aload_n 0, 1) := by decide +kernel
theorem dX9_termSentence_15 : decode cX9_termSentence 15 = .ok (.getfield 24, 3) := by decide +kernel
theorem dX9_termSentence_18 : decode cX9_termSentence 18 = .ok (.getfield 63, 3) := by decide +kernel
theorem dX9_termSentence_21 : decode cX9_termSentence 21 = .ok (.invokevirtual 69, 3) := by decide +kernel
theorem dX9_termSentence_24 : decode cX9_termSentence 24 = .ok (.ifCond .eq 5, 3) := by decide +kernel
theorem dX9_termSentence_27 : decode cX9_termSentence 27 = .ok (.iconst 0, 1) := by decide +kernel
theorem dX9_termSentence_28 : decode cX9_termSentence 28 = .ok (.ireturn, 1) := by decide +kernel
theorem dX9_termSentence_29 : decode cX9_termSentence 29 = .ok (.aload_n 0, 1) := by decide +kernel
theorem dX9_termSentence_30 : decode cX9_termSentence 30 = .ok (.getfield 44, 3) := by decide +kernel
theorem dX9_termSentence_33 : decode cX9_termSentence 33 = .ok (.aload_n 0, 1) := by decide +kernel
theorem dX9_termSentence_34 : decode cX9_termSentence 34 = .ok (.getfield 24, 3) := by decide +kernel
theorem dX9_termSentence_37 : decode cX9_termSentence 37 = .ok (.iconst 0, 1) := by decide +kernel
theorem dX9_termSentence_38 : decode cX9_termSentence 38 = .ok (.aload_n 0, 1) := by decide +kernel
theorem dX9_termSentence_39 : decode cX9_termSentence 39 = .ok (.getfield 24, 3) := by decide +kernel
theorem dX9_termSentence_42 : decode cX9_termSentence 42 = .ok (.getfield 63, 3) := by decide +kernel
theorem dX9_termSentence_45 : decode cX9_termSentence 45 = .ok (.iconst 0, 1) := by decide +kernel
theorem dX9_termSentence_46 : decode cX9_termSentence 46 = .ok (.invokevirtual 95, 3) := by decide +kernel
theorem dX9_termSentence_49 : decode cX9_termSentence 49 = .ok (.iconst (-1), 1) := by decide +kernel
theorem dX9_termSentence_50 : decode cX9_termSentence 50 = .ok (.if_icmp .ne 5, 3) := by decide +kernel
theorem dX9_termSentence_53 : decode cX9_termSentence 53 = .ok (.iconst 0, 1) := by decide +kernel
theorem dX9_termSentence_54 : decode cX9_termSentence 54 = .ok (.ireturn, 1) := by decide +kernel
theorem dX9_termSentence_55 : decode cX9_termSentence 55 = .ok (.aload_n 0, 1) := by decide +kernel
theorem dX9_termSentence_56 : decode cX9_termSentence 56 = .ok (.getfield 40, 3) := by decide +kernel
theorem dX9_termSentence_59 : decode cX9_termSentence 59 = .ok (.getfield 101, 3) := by decide +kernel
theorem dX9_termSentence_62 : decode cX9_termSentence 62 = .ok (.astore_n 1, 1) := by decide +kernel
theorem dX9_termSentence_63 : decode cX9_termSentence 63 = .ok (.iconst 0, 1) := by decide +kernel
theorem dX9_termSentence_64 : decode cX9_termSentence 64 = .ok (.istore_n 2, 1) := by decide +kernel
theorem dX9_termSentence_65 : decode cX9_termSentence 65 = .ok (.iload_n 2, 1) := by decide +kernel
theorem dX9_termSentence_66 : decode cX9_termSentence 66 = .ok (.aload_n 0, 1) := by decide +kernel
theorem dX9_termSentence_67 : decode cX9_termSentence 67 = .ok (.getfield 24, 3) := by decide +kernel
theorem dX9_termSentence_70 : decode cX9_termSentence 70 = .ok (.getfield 63, 3) := by decide +kernel
theorem dX9_termSentence_73 : decode cX9_termSentence 73 = .ok (.if_icmp .ge 33, 3) := by decide +kernel
theorem dX9_termSentence_76 : decode cX9_termSentence 76 = .ok (.aload_n 0, 1) := by decide +kernel
theorem dX9_termSentence_77 : decode cX9_termSentence 77 = .ok (.getfield 44, 3) := by decide +kernel
theorem dX9_termSentence_80 : decode cX9_termSentence 80 = .ok (.iload_n 2, 1) := by decide +kernel
theorem dX9_termSentence_81 : decode cX9_termSentence 81 = .ok (.invokevirtual 105, 3) := by decide +kernel
theorem dX9_termSentence_84 : decode cX9_termSentence 84 = .ok (.istore_n 3, 1) := by decide +kernel
theorem dX9_termSentence_85 : decode cX9_termSentence 85 = .ok (.aload_n 1, 1) := by decide +kernel
theorem dX9_termSentence_86 : decode cX9_termSentence 86 = .ok (.iload_n 3, 1) := by decide +kernel
theorem dX9_termSentence_87 : decode cX9_termSentence 87 = .ok (.invokevirtual 109, 3) := by decide +kernel
