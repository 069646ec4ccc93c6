theorem dX0_init_0 : decode cX0_init 0 = .ok (.aload_n 0, 1) := by decide +kernel
theorem dX0_init_1 : decode cX0_init 1 = .ok (.invokespecial 3, 3) := by decide +kernel
theorem dX0_init_4 : decode cX0_init 4 = .ok (.aload_n 0, 1) := by decide +kernel
theorem dX0_init_5 : decode cX0_init 5 = .ok (.iconst 3, 1) := by decide +kernel
theorem dX0_init_6 : decode cX0_init 6 = .ok (.newarray .int, 2) := by decide +kernel
theorem dX0_init_8 : decode cX0_init 8 = .ok (.putfield 9, 3) := by decide +kernel
theorem dX0_init_11 : decode cX0_init 11 = .ok (.aload_n 0, 1) := by decide +kernel
theorem dX0_init_12 : decode cX0_init 12 = .ok (.bipush 120, 2) := by decide +kernel
theorem dX0_init_14 : decode cX0_init 14 = .ok (.newarray .int, 2) := by decide +kernel
theorem dX0_init_16 : decode cX0_init 16 = .ok (.putfield 15, 3) := by decide +kernel
theorem dX0_init_19 : decode cX0_init 19 = .ok (.aload_n 0, 1) := by decide +kernel
theorem dX0_init_20 : decode cX0_init 20 = .ok (.aload_n 1, 1) := by decide +kernel
theorem dX0_init_21 : decode cX0_init 21 = .ok (.putfield 18, 3) := by decide +kernel
theorem dX0_init_24 : decode cX0_init 24 = .ok (.return_, 1) := by decide +kernel
theorem dX0_build_0 : decode cX0_build 0 = .ok (.aload_n 0, 1) := by decide +kernel
theorem dX0_build_1 : decode cX0_build 1 = .ok (.getfield 18, 3) := by decide +kernel
theorem dX0_build_4 : decode cX0_build 4 = .ok (.getfield 22, 3) := by decide +kernel
theorem dX0_build_7 : decode cX0_build 7 = .ok (.istore 5, 2) := by decide +kernel
theorem dX0_build_9 : decode cX0_build 9 = .ok (.iconst (-1), 1) := by decide +kernel
theorem dX0_build_10 : decode cX0_build 10 = .ok (.istore 6, 2) := by decide +kernel
theorem dX0_build_12 : decode cX0_build 12 = .ok (.iload_n 2, 1) := by decide +kernel
theorem dX0_build_13 : decode cX0_build 13 = .ok (.istore 7, 2) := by decide +kernel
theorem dX0_build_15 : decode cX0_build 15 = .ok (.iload 7, 2) := by decide +kernel
theorem dX0_build_17 : decode cX0_build 17 = .ok (.iload_n 3, 1) := by decide +kernel
theorem dX0_build_18 : decode cX0_build 18 = .ok (.if_icmp .ge 62, 3) := by decide +kernel
theorem dX0_build_21 : decode cX0_build 21 = .ok (.iload 7, 2) := by decide +kernel
theorem dX0_build_23 : decode cX0_build 23 = .ok (.aload_n 1, 1) := by decide +kernel
theorem dX0_build_24 : decode cX0_build 24 = .ok (.getfield 28, 3) := by decide +kernel
theorem dX0_build_27 : decode cX0_build 27 = .ok (.if_icmp .ge 53, 3) := by decide +kernel
theorem dX0_build_30 : decode cX0_build 30 = .ok (.iload 7, 2) := by decide +kernel
theorem dX0_build_32 : decode cX0_build 32 = .ok (.bipush 120, 2) := by decide +kernel
theorem dX0_build_34 : decode cX0_build 34 = .ok (.if_icmp .ge 46, 3) := by decide +kernel
theorem dX0_build_37 : decode cX0_build 37 = .ok (.aload_n 0, 1) := by decide +kernel
theorem dX0_build_38 : decode cX0_build 38 = .ok (.aload_n 1, 1) := by decide +kernel
theorem dX0_build_39 : decode cX0_build 39 = .ok (.iload 7, 2) := by decide +kernel
theorem dX0_build_41 : decode cX0_build 41 = .ok (.iload 4, 2) := by decide +kernel
theorem dX0_build_43 : decode cX0_build 43 = .ok (.invokevirtual 31, 3) := by decide +kernel
theorem dX0_build_46 : decode cX0_build 46 = .ok (.istore 6, 2) := by decide +kernel
theorem dX0_build_48 : decode cX0_build 48 = .ok (.aload_n 0, 1) := by decide +kernel
theorem dX0_build_49 : decode cX0_build 49 = .ok (.getfield 15, 3) := by decide +kernel
theorem dX0_build_52 : decode cX0_build 52 = .ok (.iload 7, 2) := by decide +kernel
theorem dX0_build_54 : decode cX0_build 54 = .ok (.iload 6, 2) := by decide +kernel
theorem dX0_build_56 : decode cX0_build 56 = .ok (.iastore, 1) := by decide +kernel
theorem dX0_build_57 : decode cX0_build 57 = .ok (.iload 6, 2) := by decide +kernel
theorem dX0_build_59 : decode cX0_build 59 = .ok (.iconst (-1), 1) := by decide +kernel
theorem dX0_build_60 : decode cX0_build 60 = .ok (.if_icmp .ne 14, 3) := by decide +kernel
theorem dX0_build_63 : decode cX0_build 63 = .ok (.aload_n 0, 1) := by decide +kernel
theorem dX0_build_64 : decode cX0_build 64 = .ok (.getfield 18, 3) := by decide +kernel
theorem dX0_build_67 : decode cX0_build 67 = .ok (.iload 5, 2) := by decide +kernel
theorem dX0_build_69 : decode cX0_build 69 = .ok (.putfield 22, 3) := by decide +kernel
theorem dX0_build_72 : decode cX0_build 72 = .ok (.iconst (-1), 1) := by decide +kernel
theorem dX0_build_73 : decode cX0_build 73 = .ok (.ireturn, 1) := by decide +kernel
theorem dX0_build_74 : decode cX0_build 74 = .ok (.iinc 7 1, 3) := by decide +kernel
theorem dX0_build_77 : decode cX0_build 77 = .ok (.goto (-62), 3) := by decide +kernel
theorem dX0_build_80 : decode cX0_build 80 = .ok (.iload 6, 2) := by decide +kernel
theorem dX0_build_82 : decode cX0_build 82 = .ok (.ireturn, 1) := by decide +kernel
theorem dX0_termOf_0 : decode cX0_termOf 0 = .ok (.aload_n 1, 1) := by decide +kernel
theorem dX0_termOf_1 : decode cX0_termOf 1 = .ok (.getfield 35, 3) := by decide +kernel
theorem dX0_termOf_4 : decode cX0_termOf 4 = .ok (.iload_n 2, 1) := by decide +kernel
theorem dX0_termOf_5 : decode cX0_termOf 5 = .ok (.iaload, 1) := by decide +kernel
theorem dX0_termOf_6 : decode cX0_termOf 6 = .ok (.istore 4, 2) := by decide +kernel
theorem dX0_termOf_8 : decode cX0_termOf 8 = .ok (.iload 4, 2) := by decide +kernel
theorem dX0_termOf_10 : decode cX0_termOf 10 = .ok (.bipush 7, 2) := by decide +kernel
theorem dX0_termOf_12 : decode cX0_termOf 12 = .ok (.if_icmp .lt 25, 3) := by decide +kernel
theorem dX0_termOf_15 : decode cX0_termOf 15 = .ok (.iload 4, 2) := by decide +kernel
theorem dX0_termOf_17 : decode cX0_termOf 17 = .ok (.bipush 10, 2) := by decide +kernel
theorem dX0_termOf_19 : decode cX0_termOf 19 = .ok (.if_icmp .ge 16, 3) := by decide +kernel
theorem dX0_termOf_22 : decode cX0_termOf 22 = .ok (.aload_n 0, 1) := by decide +kernel
theorem dX0_termOf_23 : decode cX0_termOf 23 = .ok (.getfield 9, 3) := by decide +kernel
theorem dX0_termOf_26 : decode cX0_termOf 26 = .ok (.iload 4, 2) := by decide +kernel
theorem dX0_termOf_28 : decode cX0_termOf 28 = .ok (.bipush 7, 2) := by decide +kernel
theorem dX0_termOf_30 : decode cX0_termOf 30 = .ok (.isub, 1) := by decide +kernel
theorem dX0_termOf_31 : decode cX0_termOf 31 = .ok (.iaload, 1) := by decide +kernel
theorem dX0_termOf_32 : decode cX0_termOf 32 = .ok (.goto 4, 3) := by decide +kernel
theorem dX0_termOf_35 : decode cX0_termOf 35 = .ok (.iconst (-1), 1) := by decide +kernel
theorem dX0_termOf_36 : decode cX0_termOf 36 = .ok (.ireturn, 1) := by decide +kernel
theorem dX0_termOf_37 : decode cX0_termOf 37 = .ok (.aload_n 0, 1) := by decide +kernel
theorem dX0_termOf_38 : decode cX0_termOf 38 = .ok (.aload_n 1, 1) := by decide +kernel
theorem dX0_termOf_39 : decode cX0_termOf 39 = .ok (.getfield 38, 3) := by decide +kernel
theorem dX0_termOf_42 : decode cX0_termOf 42 = .ok (.iload_n 2, 1) := by decide +kernel
theorem dX0_termOf_43 : decode cX0_termOf 43 = .ok (.iaload, 1) := by decide +kernel
theorem dX0_termOf_44 : decode cX0_termOf 44 = .ok (.invokevirtual 41, 3) := by decide +kernel
theorem dX0_termOf_47 : decode cX0_termOf 47 = .ok (.istore 5, 2) := by decide +kernel
theorem dX0_termOf_49 : decode cX0_termOf 49 = .ok (.aload_n 0, 1) := by decide +kernel
theorem dX0_termOf_50 : decode cX0_termOf 50 = .ok (.aload_n 1, 1) := by decide +kernel
theorem dX0_termOf_51 : decode cX0_termOf 51 = .ok (.getfield 45, 3) := by decide +kernel
theorem dX0_termOf_54 : decode cX0_termOf 54 = .ok (.iload_n 2, 1) := by decide +kernel
theorem dX0_termOf_55 : decode cX0_termOf 55 = .ok (.iaload, 1) := by decide +kernel
theorem dX0_termOf_56 : decode cX0_termOf 56 = .ok (.invokevirtual 41, 3) := by decide +kernel
theorem dX0_termOf_59 : decode cX0_termOf 59 = .ok (.istore 6, 2) := by decide +kernel
theorem dX0_termOf_61 : decode cX0_termOf 61 = .ok (.aload_n 0, 1) := by decide +kernel
theorem dX0_termOf_62 : decode cX0_termOf 62 = .ok (.getfield 18, 3) := by decide +kernel
theorem dX0_termOf_65 : decode cX0_termOf 65 = .ok (.iload 4, 2) := by decide +kernel
theorem dX0_termOf_67 : decode cX0_termOf 67 = .ok (.iload 5, 2) := by decide +kernel
theorem dX0_termOf_69 : decode cX0_termOf 69 = .ok (.iload 6, 2) := by decide +kernel
theorem dX0_termOf_71 : decode cX0_termOf 71 = .ok (.invokevirtual 48, 3) := by decide +kernel
theorem dX0_termOf_74 : decode cX0_termOf 74 = .ok (.istore 7, 2) := by decide +kernel
theorem dX0_termOf_76 : decode cX0_termOf 76 = .ok (.iload 7, 2) := by decide +kernel
theorem dX0_termOf_78 : decode cX0_termOf 78 = .ok (.iconst (-1), 1) := by decide +kernel
theorem dX0_termOf_79 : decode cX0_termOf 79 = .ok (.if_icmp .ne 20, 3) := by decide +kernel
theorem dX0_termOf_82 : decode cX0_termOf 82 = .ok (.aload_n 0, 1) := by decide +kernel
theorem dX0_termOf_83 : decode cX0_termOf 83 = .ok (.getfield 18, 3) := by decide +kernel
theorem dX0_termOf_86 : decode cX0_termOf 86 = .ok (.iload 4, 2) := by decide +kernel
theorem dX0_termOf_88 : decode cX0_termOf 88 = .ok (.iload 5, 2) := by decide +kernel
theorem dX0_termOf_90 : decode cX0_termOf 90 = .ok (.iload 6, 2) := by decide +kernel
theorem dX0_termOf_92 : decode cX0_termOf 92 = .ok (.iload_n 3, 1) := by decide +kernel
theorem dX0_termOf_93 : decode cX0_termOf 93 = .ok (.invokevirtual 52, 3) := by decide +kernel
theorem dX0_termOf_96 : decode cX0_termOf 96 = .ok (.goto 5, 3) := by decide +kernel
theorem dX0_termOf_99 : decode cX0_termOf 99 = .ok (.iload 7, 2) := by decide +kernel
theorem dX0_termOf_101 : decode cX0_termOf 101 = .ok (.ireturn, 1) := by decide +kernel
theorem dX0_madeOf_0 : decode cX0_madeOf 0 = .ok (.iload_n 1, 1) := by decide +kernel
theorem dX0_madeOf_1 : decode cX0_madeOf 1 = .ok (.ifCond .lt 18, 3) := by decide +kernel
theorem dX0_madeOf_4 : decode cX0_madeOf 4 = .ok (.iload_n 1, 1) := by decide +kernel
theorem dX0_madeOf_5 : decode cX0_madeOf 5 = .ok (.bipush 120, 2) := by decide +kernel
theorem dX0_madeOf_7 : decode cX0_madeOf 7 = .ok (.if_icmp .ge 12, 3) := by decide +kernel
theorem dX0_madeOf_10 : decode cX0_madeOf 10 = .ok (.aload_n 0, 1) := by decide +kernel
theorem dX0_madeOf_11 : decode cX0_madeOf 11 = .ok (.getfield 15, 3) := by decide +kernel
theorem dX0_madeOf_14 : decode cX0_madeOf 14 = .ok (.iload_n 1, 1) := by decide +kernel
theorem dX0_madeOf_15 : decode cX0_madeOf 15 = .ok (.iaload, 1) := by decide +kernel
theorem dX0_madeOf_16 : decode cX0_madeOf 16 = .ok (.goto 4, 3) := by decide +kernel
theorem dX0_madeOf_19 : decode cX0_madeOf 19 = .ok (.iconst (-1), 1) := by decide +kernel
theorem dX0_madeOf_20 : decode cX0_madeOf 20 = .ok (.ireturn, 1) := by decide +kernel
theorem dX1_init_0 : decode cX1_init 0 = .ok (.aload_n 0, 1) := by decide +kernel
theorem dX1_init_1 : decode cX1_init 1 = .ok (.invokespecial 3, 3) := by decide +kernel
theorem dX1_init_4 : decode cX1_init 4 = .ok (.aload_n 0, 1) := by decide +kernel
theorem dX1_init_5 : decode cX1_init 5 = .ok (.iconst 0, 1) := by decide +kernel
theorem dX1_init_6 : decode cX1_init 6 = .ok (.putfield 9, 3) := by decide +kernel
theorem dX1_init_9 : decode cX1_init 9 = .ok (.aload_n 0, 1) := by decide +kernel
theorem dX1_init_10 : decode cX1_init 10 = .ok (.iconst 0, 1) := by decide +kernel
theorem dX1_init_11 : decode cX1_init 11 = .ok (.iload_n 1, 1) := by decide +kernel
theorem dX1_init_12 : decode cX1_init 12 = .ok (.invokestatic 15, 3) := by decide +kernel
theorem dX1_init_15 : decode cX1_init 15 = .ok (.newarray .long, 2) := by decide +kernel
theorem dX1_init_17 : decode cX1_init 17 = .ok (.putfield 21, 3) := by decide +kernel
theorem dX1_init_20 : decode cX1_init 20 = .ok (.return_, 1) := by decide +kernel
theorem dX1_isFull_0 : decode cX1_isFull 0 = .ok (.aload_n 0, 1) := by decide +kernel
theorem dX1_isFull_1 : decode cX1_isFull 1 = .ok (.getfield 9, 3) := by decide +kernel
theorem dX1_isFull_4 : decode cX1_isFull 4 = .ok (.aload_n 0, 1) := by decide +kernel
theorem dX1_isFull_5 : decode cX1_isFull 5 = .ok (.getfield 21, 3) := by decide +kernel
theorem dX1_isFull_8 : decode cX1_isFull 8 = .ok (.arraylength, 1) := by decide +kernel
theorem dX1_isFull_9 : decode cX1_isFull 9 = .ok (.if_icmp .lt 7, 3) := by decide +kernel
theorem dX1_isFull_12 : decode cX1_isFull 12 = .ok (.iconst 1, 1) := by decide +kernel
theorem dX1_isFull_13 : decode cX1_isFull 13 = .ok (.goto 4, 3) := by decide +kernel
theorem dX1_isFull_16 : decode cX1_isFull 16 = .ok (.iconst 0, 1) := by decide +kernel
theorem dX1_isFull_17 : decode cX1_isFull 17 = .ok (.ireturn, 1) := by decide +kernel
theorem dX1_add_0 : decode cX1_add 0 = .ok (.aload_n 0, 1) := by decide +kernel
theorem dX1_add_1 : decode cX1_add 1 = .ok (.invokevirtual 25, 3) := by decide +kernel
theorem dX1_add_4 : decode cX1_add 4 = .ok (.ifCond .eq 4, 3) := by decide +kernel
theorem dX1_add_7 : decode cX1_add 7 = .ok (.return_, 1) := by decide +kernel
theorem dX1_add_8 : decode cX1_add 8 = .ok (.iload_n 1, 1) := by decide +kernel
theorem dX1_add_9 : decode cX1_add 9 = .ok (.iconst 1, 1) := by decide +kernel
theorem dX1_add_10 : decode cX1_add 10 = .ok (.iadd, 1) := by decide +kernel
theorem dX1_add_11 : decode cX1_add 11 = .ok (.i2l, 1) := by decide +kernel
theorem dX1_add_12 : decode cX1_add 12 = .ok (.lstore 7, 2) := by decide +kernel
theorem dX1_add_14 : decode cX1_add 14 = .ok (.lload 7, 2) := by decide +kernel
theorem dX1_add_16 : decode cX1_add 16 = .ok (.bipush 6, 2) := by decide +kernel
theorem dX1_add_18 : decode cX1_add 18 = .ok (.lshl, 1) := by decide +kernel
theorem dX1_add_19 : decode cX1_add 19 = .ok (.iload 6, 2) := by decide +kernel
theorem dX1_add_21 : decode cX1_add 21 = .ok (.iconst 1, 1) := by decide +kernel
theorem dX1_add_22 : decode cX1_add 22 = .ok (.iadd, 1) := by decide +kernel
theorem dX1_add_23 : decode cX1_add 23 = .ok (.i2l, 1) := by decide +kernel
theorem dX1_add_24 : decode cX1_add 24 = .ok (.lor, 1) := by decide +kernel
theorem dX1_add_25 : decode cX1_add 25 = .ok (.lstore 7, 2) := by decide +kernel
theorem dX1_add_27 : decode cX1_add 27 = .ok (.lload 7, 2) := by decide +kernel
theorem dX1_add_29 : decode cX1_add 29 = .ok (.bipush 6, 2) := by decide +kernel
theorem dX1_add_31 : decode cX1_add 31 = .ok (.lshl, 1) := by decide +kernel
theorem dX1_add_32 : decode cX1_add 32 = .ok (.iload 5, 2) := by decide +kernel
theorem dX1_add_34 : decode cX1_add 34 = .ok (.iconst 1, 1) := by decide +kernel
theorem dX1_add_35 : decode cX1_add 35 = .ok (.iadd, 1) := by decide +kernel
theorem dX1_add_36 : decode cX1_add 36 = .ok (.i2l, 1) := by decide +kernel
theorem dX1_add_37 : decode cX1_add 37 = .ok (.lor, 1) := by decide +kernel
theorem dX1_add_38 : decode cX1_add 38 = .ok (.lstore 7, 2) := by decide +kernel
theorem dX1_add_40 : decode cX1_add 40 = .ok (.lload 7, 2) := by decide +kernel
theorem dX1_add_42 : decode cX1_add 42 = .ok (.bipush 6, 2) := by decide +kernel
theorem dX1_add_44 : decode cX1_add 44 = .ok (.lshl, 1) := by decide +kernel
theorem dX1_add_45 : decode cX1_add 45 = .ok (.iload 4, 2) := by decide +kernel
theorem dX1_add_47 : decode cX1_add 47 = .ok (.iconst 1, 1) := by decide +kernel
theorem dX1_add_48 : decode cX1_add 48 = .ok (.iadd, 1) := by decide +kernel
theorem dX1_add_49 : decode cX1_add 49 = .ok (.i2l, 1) := by decide +kernel
theorem dX1_add_50 : decode cX1_add 50 = .ok (.lor, 1) := by decide +kernel
theorem dX1_add_51 : decode cX1_add 51 = .ok (.lstore 7, 2) := by decide +kernel
theorem dX1_add_53 : decode cX1_add 53 = .ok (.lload 7, 2) := by decide +kernel
theorem dX1_add_55 : decode cX1_add 55 = .ok (.bipush 6, 2) := by decide +kernel
theorem dX1_add_57 : decode cX1_add 57 = .ok (.lshl, 1) := by decide +kernel
theorem dX1_add_58 : decode cX1_add 58 = .ok (.iload_n 3, 1) := by decide +kernel
theorem dX1_add_59 : decode cX1_add 59 = .ok (.iconst 1, 1) := by decide +kernel
theorem dX1_add_60 : decode cX1_add 60 = .ok (.iadd, 1) := by decide +kernel
theorem dX1_add_61 : decode cX1_add 61 = .ok (.i2l, 1) := by decide +kernel
theorem dX1_add_62 : decode cX1_add 62 = .ok (.lor, 1) := by decide +kernel
theorem dX1_add_63 : decode cX1_add 63 = .ok (.lstore 7, 2) := by decide +kernel
theorem dX1_add_65 : decode cX1_add 65 = .ok (.lload 7, 2) := by decide +kernel
theorem dX1_add_67 : decode cX1_add 67 = .ok (.bipush 6, 2) := by decide +kernel
theorem dX1_add_69 : decode cX1_add 69 = .ok (.lshl, 1) := by decide +kernel
theorem dX1_add_70 : decode cX1_add 70 = .ok (.iload_n 2, 1) := by decide +kernel
theorem dX1_add_71 : decode cX1_add 71 = .ok (.iconst 1, 1) := by decide +kernel
theorem dX1_add_72 : decode cX1_add 72 = .ok (.iadd, 1) := by decide +kernel
theorem dX1_add_73 : decode cX1_add 73 = .ok (.i2l, 1) := by decide +kernel
theorem dX1_add_74 : decode cX1_add 74 = .ok (.lor, 1) := by decide +kernel
theorem dX1_add_75 : decode cX1_add 75 = .ok (.lstore 7, 2) := by decide +kernel
theorem dX1_add_77 : decode cX1_add 77 = .ok (.aload_n 0, 1) := by decide +kernel
theorem dX1_add_78 : decode cX1_add 78 = .ok (.getfield 21, 3) := by decide +kernel
theorem dX1_add_81 : decode cX1_add 81 = .ok (.aload_n 0, 1) := by decide +kernel
theorem dX1_add_82 : decode cX1_add 82 = .ok (.getfield 9, 3) := by decide +kernel
theorem dX1_add_85 : decode cX1_add 85 = .ok (.lload 7, 2) := by decide +kernel
theorem dX1_add_87 : decode cX1_add 87 = .ok (.lastore, 1) := by decide +kernel
theorem dX1_add_88 : decode cX1_add 88 = .ok (.aload_n 0, 1) := by decide +kernel
theorem dX1_add_89 : decode cX1_add 89 = .ok (.dup, 1) := by decide +kernel
theorem dX1_add_90 : decode cX1_add 90 = .ok (.getfield 9, 3) := by decide +kernel
theorem dX1_add_93 : decode cX1_add 93 = .ok (.iconst 1, 1) := by decide +kernel
theorem dX1_add_94 : decode cX1_add 94 = .ok (.iadd, 1) := by decide +kernel
theorem dX1_add_95 : decode cX1_add 95 = .ok (.putfield 9, 3) := by decide +kernel
theorem dX1_add_98 : decode cX1_add 98 = .ok (.return_, 1) := by decide +kernel
theorem dX1_addFrom_0 : decode cX1_addFrom 0 = .ok (.aload_n 0, 1) := by decide +kernel
theorem dX1_addFrom_1 : decode cX1_addFrom 1 = .ok (.invokevirtual 25, 3) := by decide +kernel
theorem dX1_addFrom_4 : decode cX1_addFrom 4 = .ok (.ifCond .ne 40, 3) := by decide +kernel
theorem dX1_addFrom_7 : decode cX1_addFrom 7 = .ok (.iload_n 2, 1) := by decide +kernel
theorem dX1_addFrom_8 : decode cX1_addFrom 8 = .ok (.ifCond .lt 36, 3) := by decide +kernel
theorem dX1_addFrom_11 : decode cX1_addFrom 11 = .ok (.iload_n 2, 1) := by decide +kernel
theorem dX1_addFrom_12 : decode cX1_addFrom 12 = .ok (.aload_n 1, 1) := by decide +kernel
theorem dX1_addFrom_13 : decode cX1_addFrom 13 = .ok (.getfield 9, 3) := by decide +kernel
theorem dX1_addFrom_16 : decode cX1_addFrom 16 = .ok (.if_icmp .ge 28, 3) := by decide +kernel
theorem dX1_addFrom_19 : decode cX1_addFrom 19 = .ok (.aload_n 0, 1) := by decide +kernel
theorem dX1_addFrom_20 : decode cX1_addFrom 20 = .ok (.getfield 21, 3) := by decide +kernel
theorem dX1_addFrom_23 : decode cX1_addFrom 23 = .ok (.aload_n 0, 1) := by decide +kernel
theorem dX1_addFrom_24 : decode cX1_addFrom 24 = .ok (.getfield 9, 3) := by decide +kernel
theorem dX1_addFrom_27 : decode cX1_addFrom 27 = .ok (.aload_n 1, 1) := by decide +kernel
theorem dX1_addFrom_28 : decode cX1_addFrom 28 = .ok (.getfield 21, 3) := by decide +kernel
theorem dX1_addFrom_31 : decode cX1_addFrom 31 = .ok (.iload_n 2, 1) := by decide +kernel
theorem dX1_addFrom_32 : decode cX1_addFrom 32 = .ok (.laload, 1) := by decide +kernel
theorem dX1_addFrom_33 : decode cX1_addFrom 33 = .ok (.lastore, 1) := by decide +kernel
theorem dX1_addFrom_34 : decode cX1_addFrom 34 = .ok (.aload_n 0, 1) := by decide +kernel
theorem dX1_addFrom_35 : decode cX1_addFrom 35 = .ok (.dup, 1) := by decide +kernel
theorem dX1_addFrom_36 : decode cX1_addFrom 36 = .ok (.getfield 9, 3) := by decide +kernel
theorem dX1_addFrom_39 : decode cX1_addFrom 39 = .ok (.iconst 1, 1) := by decide +kernel
theorem dX1_addFrom_40 : decode cX1_addFrom 40 = .ok (.iadd, 1) := by decide +kernel
theorem dX1_addFrom_41 : decode cX1_addFrom 41 = .ok (.putfield 9, 3) := by decide +kernel
theorem dX1_addFrom_44 : decode cX1_addFrom 44 = .ok (.return_, 1) := by decide +kernel
theorem dX1_tell_0 : decode cX1_tell 0 = .ok (.iload_n 1, 1) := by decide +kernel
theorem dX1_tell_1 : decode cX1_tell 1 = .ok (.ifCond .lt 20, 3) := by decide +kernel
theorem dX1_tell_4 : decode cX1_tell 4 = .ok (.iload_n 1, 1) := by decide +kernel
theorem dX1_tell_5 : decode cX1_tell 5 = .ok (.aload_n 0, 1) := by decide +kernel
theorem dX1_tell_6 : decode cX1_tell 6 = .ok (.getfield 9, 3) := by decide +kernel
theorem dX1_tell_9 : decode cX1_tell 9 = .ok (.if_icmp .ge 12, 3) := by decide +kernel
theorem dX1_tell_12 : decode cX1_tell 12 = .ok (.iload_n 2, 1) := by decide +kernel
theorem dX1_tell_13 : decode cX1_tell 13 = .ok (.ifCond .lt 8, 3) := by decide +kernel
theorem dX1_tell_16 : decode cX1_tell 16 = .ok (.iload_n 2, 1) := by decide +kernel
theorem dX1_tell_17 : decode cX1_tell 17 = .ok (.iconst 5, 1) := by decide +kernel
theorem dX1_tell_18 : decode cX1_tell 18 = .ok (.if_icmp .le 5, 3) := by decide +kernel
theorem dX1_tell_21 : decode cX1_tell 21 = .ok (.iconst (-1), 1) := by decide +kernel
theorem dX1_tell_22 : decode cX1_tell 22 = .ok (.ireturn, 1) := by decide +kernel
theorem dX1_tell_23 : decode cX1_tell 23 = .ok (.aload_n 0, 1) := by decide +kernel
theorem dX1_tell_24 : decode cX1_tell 24 = .ok (.getfield 21, 3) := by decide +kernel
theorem dX1_tell_27 : decode cX1_tell 27 = .ok (.iload_n 1, 1) := by decide +kernel
theorem dX1_tell_28 : decode cX1_tell 28 = .ok (.laload, 1) := by decide +kernel
theorem dX1_tell_29 : decode cX1_tell 29 = .ok (.bipush 6, 2) := by decide +kernel
theorem dX1_tell_31 : decode cX1_tell 31 = .ok (.iload_n 2, 1) := by decide +kernel
theorem dX1_tell_32 : decode cX1_tell 32 = .ok (.imul, 1) := by decide +kernel
theorem dX1_tell_33 : decode cX1_tell 33 = .ok (.lshr, 1) := by decide +kernel
theorem dX1_tell_34 : decode cX1_tell 34 = .ok (.ldc2_w 29, 3) := by decide +kernel
theorem dX1_tell_37 : decode cX1_tell 37 = .ok (.land, 1) := by decide +kernel
theorem dX1_tell_38 : decode cX1_tell 38 = .ok (.l2i, 1) := by decide +kernel
theorem dX1_tell_39 : decode cX1_tell 39 = .ok (.iconst 1, 1) := by decide +kernel
theorem dX1_tell_40 : decode cX1_tell 40 = .ok (.isub, 1) := by decide +kernel
theorem dX1_tell_41 : decode cX1_tell 41 = .ok (.ireturn, 1) := by decide +kernel
theorem dX1_isLate_0 : decode cX1_isLate 0 = .ok (.aload_n 0, 1) := by decide +kernel
theorem dX1_isLate_1 : decode cX1_isLate 1 = .ok (.iload_n 1, 1) := by decide +kernel
theorem dX1_isLate_2 : decode cX1_isLate 2 = .ok (.iconst 4, 1) := by decide +kernel
theorem dX1_isLate_3 : decode cX1_isLate 3 = .ok (.invokevirtual 31, 3) := by decide +kernel
theorem dX1_isLate_6 : decode cX1_isLate 6 = .ok (.iload_n 2, 1) := by decide +kernel
theorem dX1_isLate_7 : decode cX1_isLate 7 = .ok (.if_icmp .le 7, 3) := by decide +kernel
theorem dX1_isLate_10 : decode cX1_isLate 10 = .ok (.iconst 1, 1) := by decide +kernel
theorem dX1_isLate_11 : decode cX1_isLate 11 = .ok (.goto 4, 3) := by decide +kernel
theorem dX1_isLate_14 : decode cX1_isLate 14 = .ok (.iconst 0, 1) := by decide +kernel
theorem dX1_isLate_15 : decode cX1_isLate 15 = .ok (.ireturn, 1) := by decide +kernel
theorem dX1_countInTime_0 : decode cX1_countInTime 0 = .ok (.iconst 0, 1) := by decide +kernel
theorem dX1_countInTime_1 : decode cX1_countInTime 1 = .ok (.istore_n 2, 1) := by decide +kernel
theorem dX1_countInTime_2 : decode cX1_countInTime 2 = .ok (.iconst 0, 1) := by decide +kernel
theorem dX1_countInTime_3 : decode cX1_countInTime 3 = .ok (.istore_n 3, 1) := by decide +kernel
theorem dX1_countInTime_4 : decode cX1_countInTime 4 = .ok (.iload_n 3, 1) := by decide +kernel
theorem dX1_countInTime_5 : decode cX1_countInTime 5 = .ok (.aload_n 0, 1) := by decide +kernel
theorem dX1_countInTime_6 : decode cX1_countInTime 6 = .ok (.getfield 9, 3) := by decide +kernel
theorem dX1_countInTime_9 : decode cX1_countInTime 9 = .ok (.if_icmp .ge 21, 3) := by decide +kernel
theorem dX1_countInTime_12 : decode cX1_countInTime 12 = .ok (.aload_n 0, 1) := by decide +kernel
theorem dX1_countInTime_13 : decode cX1_countInTime 13 = .ok (.iload_n 3, 1) := by decide +kernel
theorem dX1_countInTime_14 : decode cX1_countInTime 14 = .ok (.iload_n 1, 1) := by decide +kernel
theorem dX1_countInTime_15 : decode cX1_countInTime 15 = .ok (.invokevirtual 34, 3) := by decide +kernel
theorem dX1_countInTime_18 : decode cX1_countInTime 18 = .ok (.ifCond .ne 6, 3) := by decide +kernel
theorem dX1_countInTime_21 : decode cX1_countInTime 21 = .ok (.iinc 2 1, 3) := by decide +kernel
theorem dX1_countInTime_24 : decode cX1_countInTime 24 = .ok (.iinc 3 1, 3) := by decide +kernel
theorem dX1_countInTime_27 : decode cX1_countInTime 27 = .ok (.goto (-23), 3) := by decide +kernel
theorem dX1_countInTime_30 : decode cX1_countInTime 30 = .ok (.iload_n 2, 1) := by decide +kernel
theorem dX1_countInTime_31 : decode cX1_countInTime 31 = .ok (.ireturn, 1) := by decide +kernel
theorem dX2_init_0 : decode cX2_init 0 = .ok (.aload_n 0, 1) := by decide +kernel
theorem dX2_init_1 : decode cX2_init 1 = .ok (.invokespecial 3, 3) := by decide +kernel
theorem dX2_init_4 : decode cX2_init 4 = .ok (.aload_n 0, 1) := by decide +kernel
theorem dX2_init_5 : decode cX2_init 5 = .ok (.iconst 0, 1) := by decide +kernel
theorem dX2_init_6 : decode cX2_init 6 = .ok (.putfield 9, 3) := by decide +kernel
theorem dX2_init_9 : decode cX2_init 9 = .ok (.aload_n 0, 1) := by decide +kernel
theorem dX2_init_10 : decode cX2_init 10 = .ok (.iconst 0, 1) := by decide +kernel
theorem dX2_init_11 : decode cX2_init 11 = .ok (.putfield 15, 3) := by decide +kernel
theorem dX2_init_14 : decode cX2_init 14 = .ok (.iconst 0, 1) := by decide +kernel
theorem dX2_init_15 : decode cX2_init 15 = .ok (.iload_n 1, 1) := by decide +kernel
theorem dX2_init_16 : decode cX2_init 16 = .ok (.invokestatic 18, 3) := by decide +kernel
theorem dX2_init_19 : decode cX2_init 19 = .ok (.istore_n 2, 1) := by decide +kernel
theorem dX2_init_20 : decode cX2_init 20 = .ok (.aload_n 0, 1) := by decide +kernel
theorem dX2_init_21 : decode cX2_init 21 = .ok (.iload_n 2, 1) := by decide +kernel
theorem dX2_init_22 : decode cX2_init 22 = .ok (.newarray .int, 2) := by decide +kernel
theorem dX2_init_24 : decode cX2_init 24 = .ok (.putfield 24, 3) := by decide +kernel
theorem dX2_init_27 : decode cX2_init 27 = .ok (.aload_n 0, 1) := by decide +kernel
theorem dX2_init_28 : decode cX2_init 28 = .ok (.iload_n 2, 1) := by decide +kernel
theorem dX2_init_29 : decode cX2_init 29 = .ok (.newarray .int, 2) := by decide +kernel
theorem dX2_init_31 : decode cX2_init 31 = .ok (.putfield 28, 3) := by decide +kernel
theorem dX2_init_34 : decode cX2_init 34 = .ok (.aload_n 0, 1) := by decide +kernel
theorem dX2_init_35 : decode cX2_init 35 = .ok (.iload_n 2, 1) := by decide +kernel
theorem dX2_init_36 : decode cX2_init 36 = .ok (.newarray .int, 2) := by decide +kernel
theorem dX2_init_38 : decode cX2_init 38 = .ok (.putfield 31, 3) := by decide +kernel
theorem dX2_init_41 : decode cX2_init 41 = .ok (.aload_n 0, 1) := by decide +kernel
theorem dX2_init_42 : decode cX2_init 42 = .ok (.iload_n 2, 1) := by decide +kernel
theorem dX2_init_43 : decode cX2_init 43 = .ok (.newarray .int, 2) := by decide +kernel
theorem dX2_init_45 : decode cX2_init 45 = .ok (.putfield 34, 3) := by decide +kernel
theorem dX2_init_48 : decode cX2_init 48 = .ok (.return_, 1) := by decide +kernel
theorem dX2_empty_0 : decode cX2_empty 0 = .ok (.aload_n 0, 1) := by decide +kernel
theorem dX2_empty_1 : decode cX2_empty 1 = .ok (.iconst 0, 1) := by decide +kernel
theorem dX2_empty_2 : decode cX2_empty 2 = .ok (.putfield 9, 3) := by decide +kernel
theorem dX2_empty_5 : decode cX2_empty 5 = .ok (.aload_n 0, 1) := by decide +kernel
theorem dX2_empty_6 : decode cX2_empty 6 = .ok (.iconst 0, 1) := by decide +kernel
theorem dX2_empty_7 : decode cX2_empty 7 = .ok (.putfield 15, 3) := by decide +kernel
theorem dX2_empty_10 : decode cX2_empty 10 = .ok (.return_, 1) := by decide +kernel
theorem dX2_add_0 : decode cX2_add 0 = .ok (.aload_n 0, 1) := by decide +kernel
theorem dX2_add_1 : decode cX2_add 1 = .ok (.getfield 9, 3) := by decide +kernel
theorem dX2_add_4 : decode cX2_add 4 = .ok (.aload_n 0, 1) := by decide +kernel
theorem dX2_add_5 : decode cX2_add 5 = .ok (.getfield 24, 3) := by decide +kernel
theorem dX2_add_8 : decode cX2_add 8 = .ok (.arraylength, 1) := by decide +kernel
theorem dX2_add_9 : decode cX2_add 9 = .ok (.if_icmp .lt 5, 3) := by decide +kernel
theorem dX2_add_12 : decode cX2_add 12 = .ok (.iconst (-1), 1) := by decide +kernel
theorem dX2_add_13 : decode cX2_add 13 = .ok (.ireturn, 1) := by decide +kernel
theorem dX2_add_14 : decode cX2_add 14 = .ok (.aload_n 0, 1) := by decide +kernel
theorem dX2_add_15 : decode cX2_add 15 = .ok (.getfield 24, 3) := by decide +kernel
theorem dX2_add_18 : decode cX2_add 18 = .ok (.aload_n 0, 1) := by decide +kernel
theorem dX2_add_19 : decode cX2_add 19 = .ok (.getfield 9, 3) := by decide +kernel
theorem dX2_add_22 : decode cX2_add 22 = .ok (.iload_n 1, 1) := by decide +kernel
theorem dX2_add_23 : decode cX2_add 23 = .ok (.iastore, 1) := by decide +kernel
theorem dX2_add_24 : decode cX2_add 24 = .ok (.aload_n 0, 1) := by decide +kernel
theorem dX2_add_25 : decode cX2_add 25 = .ok (.getfield 28, 3) := by decide +kernel
theorem dX2_add_28 : decode cX2_add 28 = .ok (.aload_n 0, 1) := by decide +kernel
theorem dX2_add_29 : decode cX2_add 29 = .ok (.getfield 9, 3) := by decide +kernel
theorem dX2_add_32 : decode cX2_add 32 = .ok (.iload_n 2, 1) := by decide +kernel
theorem dX2_add_33 : decode cX2_add 33 = .ok (.iastore, 1) := by decide +kernel
theorem dX2_add_34 : decode cX2_add 34 = .ok (.aload_n 0, 1) := by decide +kernel
theorem dX2_add_35 : decode cX2_add 35 = .ok (.getfield 31, 3) := by decide +kernel
theorem dX2_add_38 : decode cX2_add 38 = .ok (.aload_n 0, 1) := by decide +kernel
theorem dX2_add_39 : decode cX2_add 39 = .ok (.getfield 9, 3) := by decide +kernel
theorem dX2_add_42 : decode cX2_add 42 = .ok (.iload_n 3, 1) := by decide +kernel
theorem dX2_add_43 : decode cX2_add 43 = .ok (.iastore, 1) := by decide +kernel
theorem dX2_add_44 : decode cX2_add 44 = .ok (.aload_n 0, 1) := by decide +kernel
theorem dX2_add_45 : decode cX2_add 45 = .ok (.getfield 34, 3) := by decide +kernel
theorem dX2_add_48 : decode cX2_add 48 = .ok (.aload_n 0, 1) := by decide +kernel
theorem dX2_add_49 : decode cX2_add 49 = .ok (.getfield 9, 3) := by decide +kernel
theorem dX2_add_52 : decode cX2_add 52 = .ok (.iload_n 1, 1) := by decide +kernel
theorem dX2_add_53 : decode cX2_add 53 = .ok (.bipush 7, 2) := by decide +kernel
theorem dX2_add_55 : decode cX2_add 55 = .ok (.if_icmp .lt 12, 3) := by decide +kernel
theorem dX2_add_58 : decode cX2_add 58 = .ok (.iload_n 1, 1) := by decide +kernel
theorem dX2_add_59 : decode cX2_add 59 = .ok (.bipush 7, 2) := by decide +kernel
theorem dX2_add_61 : decode cX2_add 61 = .ok (.isub, 1) := by decide +kernel
theorem dX2_add_62 : decode cX2_add 62 = .ok (.iconst 1, 1) := by decide +kernel
theorem dX2_add_63 : decode cX2_add 63 = .ok (.iadd, 1) := by decide +kernel
theorem dX2_add_64 : decode cX2_add 64 = .ok (.goto 16, 3) := by decide +kernel
theorem dX2_add_67 : decode cX2_add 67 = .ok (.aload_n 0, 1) := by decide +kernel
theorem dX2_add_68 : decode cX2_add 68 = .ok (.iload_n 2, 1) := by decide +kernel
theorem dX2_add_69 : decode cX2_add 69 = .ok (.invokevirtual 37, 3) := by decide +kernel
theorem dX2_add_72 : decode cX2_add 72 = .ok (.aload_n 0, 1) := by decide +kernel
theorem dX2_add_73 : decode cX2_add 73 = .ok (.iload_n 3, 1) := by decide +kernel
theorem dX2_add_74 : decode cX2_add 74 = .ok (.invokevirtual 37, 3) := by decide +kernel
theorem dX2_add_77 : decode cX2_add 77 = .ok (.invokestatic 18, 3) := by decide +kernel
theorem dX2_add_80 : decode cX2_add 80 = .ok (.iastore, 1) := by decide +kernel
theorem dX2_add_81 : decode cX2_add 81 = .ok (.aload_n 0, 1) := by decide +kernel
theorem dX2_add_82 : decode cX2_add 82 = .ok (.dup, 1) := by decide +kernel
theorem dX2_add_83 : decode cX2_add 83 = .ok (.getfield 9, 3) := by decide +kernel
theorem dX2_add_86 : decode cX2_add 86 = .ok (.iconst 1, 1) := by decide +kernel
theorem dX2_add_87 : decode cX2_add 87 = .ok (.iadd, 1) := by decide +kernel
theorem dX2_add_88 : decode cX2_add 88 = .ok (.putfield 9, 3) := by decide +kernel
theorem dX2_add_91 : decode cX2_add 91 = .ok (.aload_n 0, 1) := by decide +kernel
theorem dX2_add_92 : decode cX2_add 92 = .ok (.getfield 9, 3) := by decide +kernel
theorem dX2_add_95 : decode cX2_add 95 = .ok (.iconst 1, 1) := by decide +kernel
theorem dX2_add_96 : decode cX2_add 96 = .ok (.isub, 1) := by decide +kernel
theorem dX2_add_97 : decode cX2_add 97 = .ok (.ireturn, 1) := by decide +kernel
theorem dX2_stageOf_0 : decode cX2_stageOf 0 = .ok (.iload_n 1, 1) := by decide +kernel
theorem dX2_stageOf_1 : decode cX2_stageOf 1 = .ok (.ifCond .lt 20, 3) := by decide +kernel
theorem dX2_stageOf_4 : decode cX2_stageOf 4 = .ok (.iload_n 1, 1) := by decide +kernel
theorem dX2_stageOf_5 : decode cX2_stageOf 5 = .ok (.aload_n 0, 1) := by decide +kernel
theorem dX2_stageOf_6 : decode cX2_stageOf 6 = .ok (.getfield 9, 3) := by decide +kernel
theorem dX2_stageOf_9 : decode cX2_stageOf 9 = .ok (.if_icmp .ge 12, 3) := by decide +kernel
theorem dX2_stageOf_12 : decode cX2_stageOf 12 = .ok (.aload_n 0, 1) := by decide +kernel
theorem dX2_stageOf_13 : decode cX2_stageOf 13 = .ok (.getfield 34, 3) := by decide +kernel
theorem dX2_stageOf_16 : decode cX2_stageOf 16 = .ok (.iload_n 1, 1) := by decide +kernel
theorem dX2_stageOf_17 : decode cX2_stageOf 17 = .ok (.iaload, 1) := by decide +kernel
theorem dX2_stageOf_18 : decode cX2_stageOf 18 = .ok (.goto 4, 3) := by decide +kernel
theorem dX2_stageOf_21 : decode cX2_stageOf 21 = .ok (.iconst 0, 1) := by decide +kernel
theorem dX2_stageOf_22 : decode cX2_stageOf 22 = .ok (.ireturn, 1) := by decide +kernel
theorem dX2_isLetter_0 : decode cX2_isLetter 0 = .ok (.iload_n 1, 1) := by decide +kernel
theorem dX2_isLetter_1 : decode cX2_isLetter 1 = .ok (.ifCond .lt 28, 3) := by decide +kernel
theorem dX2_isLetter_4 : decode cX2_isLetter 4 = .ok (.iload_n 1, 1) := by decide +kernel
theorem dX2_isLetter_5 : decode cX2_isLetter 5 = .ok (.aload_n 0, 1) := by decide +kernel
theorem dX2_isLetter_6 : decode cX2_isLetter 6 = .ok (.getfield 9, 3) := by decide +kernel
theorem dX2_isLetter_9 : decode cX2_isLetter 9 = .ok (.if_icmp .ge 20, 3) := by decide +kernel
theorem dX2_isLetter_12 : decode cX2_isLetter 12 = .ok (.aload_n 0, 1) := by decide +kernel
theorem dX2_isLetter_13 : decode cX2_isLetter 13 = .ok (.getfield 24, 3) := by decide +kernel
theorem dX2_isLetter_16 : decode cX2_isLetter 16 = .ok (.iload_n 1, 1) := by decide +kernel
theorem dX2_isLetter_17 : decode cX2_isLetter 17 = .ok (.iaload, 1) := by decide +kernel
theorem dX2_isLetter_18 : decode cX2_isLetter 18 = .ok (.bipush 7, 2) := by decide +kernel
theorem dX2_isLetter_20 : decode cX2_isLetter 20 = .ok (.iload_n 2, 1) := by decide +kernel
theorem dX2_isLetter_21 : decode cX2_isLetter 21 = .ok (.iadd, 1) := by decide +kernel
theorem dX2_isLetter_22 : decode cX2_isLetter 22 = .ok (.if_icmp .ne 7, 3) := by decide +kernel
theorem dX2_isLetter_25 : decode cX2_isLetter 25 = .ok (.iconst 1, 1) := by decide +kernel
theorem dX2_isLetter_26 : decode cX2_isLetter 26 = .ok (.goto 4, 3) := by decide +kernel
theorem dX2_isLetter_29 : decode cX2_isLetter 29 = .ok (.iconst 0, 1) := by decide +kernel
theorem dX2_isLetter_30 : decode cX2_isLetter 30 = .ok (.ireturn, 1) := by decide +kernel
theorem dX2_lettersIn_0 : decode cX2_lettersIn 0 = .ok (.iconst 0, 1) := by decide +kernel
theorem dX2_lettersIn_1 : decode cX2_lettersIn 1 = .ok (.istore_n 3, 1) := by decide +kernel
theorem dX2_lettersIn_2 : decode cX2_lettersIn 2 = .ok (.iload_n 1, 1) := by decide +kernel
theorem dX2_lettersIn_3 : decode cX2_lettersIn 3 = .ok (.istore 4, 2) := by decide +kernel
theorem dX2_lettersIn_5 : decode cX2_lettersIn 5 = .ok (.iload 4, 2) := by decide +kernel
theorem dX2_lettersIn_7 : decode cX2_lettersIn 7 = .ok (.iload_n 2, 1) := by decide +kernel
theorem dX2_lettersIn_8 : decode cX2_lettersIn 8 = .ok (.if_icmp .ge 45, 3) := by decide +kernel
theorem dX2_lettersIn_11 : decode cX2_lettersIn 11 = .ok (.iload 4, 2) := by decide +kernel
theorem dX2_lettersIn_13 : decode cX2_lettersIn 13 = .ok (.aload_n 0, 1) := by decide +kernel
theorem dX2_lettersIn_14 : decode cX2_lettersIn 14 = .ok (.getfield 9, 3) := by decide +kernel
theorem dX2_lettersIn_17 : decode cX2_lettersIn 17 = .ok (.if_icmp .ge 36, 3) := by decide +kernel
theorem dX2_lettersIn_20 : decode cX2_lettersIn 20 = .ok (.aload_n 0, 1) := by decide +kernel
theorem dX2_lettersIn_21 : decode cX2_lettersIn 21 = .ok (.getfield 24, 3) := by decide +kernel
theorem dX2_lettersIn_24 : decode cX2_lettersIn 24 = .ok (.iload 4, 2) := by decide +kernel
theorem dX2_lettersIn_26 : decode cX2_lettersIn 26 = .ok (.iaload, 1) := by decide +kernel
theorem dX2_lettersIn_27 : decode cX2_lettersIn 27 = .ok (.bipush 7, 2) := by decide +kernel
theorem dX2_lettersIn_29 : decode cX2_lettersIn 29 = .ok (.if_icmp .lt 18, 3) := by decide +kernel
theorem dX2_lettersIn_32 : decode cX2_lettersIn 32 = .ok (.iload_n 3, 1) := by decide +kernel
theorem dX2_lettersIn_33 : decode cX2_lettersIn 33 = .ok (.iconst 1, 1) := by decide +kernel
theorem dX2_lettersIn_34 : decode cX2_lettersIn 34 = .ok (.aload_n 0, 1) := by decide +kernel
theorem dX2_lettersIn_35 : decode cX2_lettersIn 35 = .ok (.getfield 24, 3) := by decide +kernel
theorem dX2_lettersIn_38 : decode cX2_lettersIn 38 = .ok (.iload 4, 2) := by decide +kernel
theorem dX2_lettersIn_40 : decode cX2_lettersIn 40 = .ok (.iaload, 1) := by decide +kernel
theorem dX2_lettersIn_41 : decode cX2_lettersIn 41 = .ok (.bipush 7, 2) := by decide +kernel
theorem dX2_lettersIn_43 : decode cX2_lettersIn 43 = .ok (.isub, 1) := by decide +kernel
theorem dX2_lettersIn_44 : decode cX2_lettersIn 44 = .ok (.ishl, 1) := by decide +kernel
theorem dX2_lettersIn_45 : decode cX2_lettersIn 45 = .ok (.ior, 1) := by decide +kernel
theorem dX2_lettersIn_46 : decode cX2_lettersIn 46 = .ok (.istore_n 3, 1) := by decide +kernel
theorem dX2_lettersIn_47 : decode cX2_lettersIn 47 = .ok (.iinc 4 1, 3) := by decide +kernel
theorem dX2_lettersIn_50 : decode cX2_lettersIn 50 = .ok (.goto (-45), 3) := by decide +kernel
theorem dX2_lettersIn_53 : decode cX2_lettersIn 53 = .ok (.iload_n 3, 1) := by decide +kernel
theorem dX2_lettersIn_54 : decode cX2_lettersIn 54 = .ok (.ireturn, 1) := by decide +kernel
theorem dX2_signsIn_0 : decode cX2_signsIn 0 = .ok (.iconst 0, 1) := by decide +kernel
theorem dX2_signsIn_1 : decode cX2_signsIn 1 = .ok (.istore_n 3, 1) := by decide +kernel
theorem dX2_signsIn_2 : decode cX2_signsIn 2 = .ok (.iload_n 1, 1) := by decide +kernel
theorem dX2_signsIn_3 : decode cX2_signsIn 3 = .ok (.istore 4, 2) := by decide +kernel
theorem dX2_signsIn_5 : decode cX2_signsIn 5 = .ok (.iload 4, 2) := by decide +kernel
theorem dX2_signsIn_7 : decode cX2_signsIn 7 = .ok (.iload_n 2, 1) := by decide +kernel
theorem dX2_signsIn_8 : decode cX2_signsIn 8 = .ok (.if_icmp .ge 33, 3) := by decide +kernel
theorem dX2_signsIn_11 : decode cX2_signsIn 11 = .ok (.iload 4, 2) := by decide +kernel
theorem dX2_signsIn_13 : decode cX2_signsIn 13 = .ok (.aload_n 0, 1) := by decide +kernel
theorem dX2_signsIn_14 : decode cX2_signsIn 14 = .ok (.getfield 9, 3) := by decide +kernel
theorem dX2_signsIn_17 : decode cX2_signsIn 17 = .ok (.if_icmp .ge 24, 3) := by decide +kernel
theorem dX2_signsIn_20 : decode cX2_signsIn 20 = .ok (.aload_n 0, 1) := by decide +kernel
theorem dX2_signsIn_21 : decode cX2_signsIn 21 = .ok (.getfield 24, 3) := by decide +kernel
theorem dX2_signsIn_24 : decode cX2_signsIn 24 = .ok (.iload 4, 2) := by decide +kernel
theorem dX2_signsIn_26 : decode cX2_signsIn 26 = .ok (.iaload, 1) := by decide +kernel
theorem dX2_signsIn_27 : decode cX2_signsIn 27 = .ok (.bipush 7, 2) := by decide +kernel
theorem dX2_signsIn_29 : decode cX2_signsIn 29 = .ok (.if_icmp .ge 6, 3) := by decide +kernel
theorem dX2_signsIn_32 : decode cX2_signsIn 32 = .ok (.iinc 3 1, 3) := by decide +kernel
theorem dX2_signsIn_35 : decode cX2_signsIn 35 = .ok (.iinc 4 1, 3) := by decide +kernel
theorem dX2_signsIn_38 : decode cX2_signsIn 38 = .ok (.goto (-33), 3) := by decide +kernel
theorem dX2_signsIn_41 : decode cX2_signsIn 41 = .ok (.iload_n 3, 1) := by decide +kernel
theorem dX2_signsIn_42 : decode cX2_signsIn 42 = .ok (.ireturn, 1) := by decide +kernel
theorem dX2_copied_0 : decode cX2_copied 0 = .ok (.new 10, 3) := by decide +kernel
theorem dX2_copied_3 : decode cX2_copied 3 = .ok (.dup, 1) := by decide +kernel
theorem dX2_copied_4 : decode cX2_copied 4 = .ok (.aload_n 0, 1) := by decide +kernel
theorem dX2_copied_5 : decode cX2_copied 5 = .ok (.getfield 9, 3) := by decide +kernel
theorem dX2_copied_8 : decode cX2_copied 8 = .ok (.invokespecial 41, 3) := by decide +kernel
theorem dX2_copied_11 : decode cX2_copied 11 = .ok (.astore_n 1, 1) := by decide +kernel
theorem dX2_copied_12 : decode cX2_copied 12 = .ok (.aload_n 0, 1) := by decide +kernel
theorem dX2_copied_13 : decode cX2_copied 13 = .ok (.getfield 24, 3) := by decide +kernel
theorem dX2_copied_16 : decode cX2_copied 16 = .ok (.iconst 0, 1) := by decide +kernel
theorem dX2_copied_17 : decode cX2_copied 17 = .ok (.aload_n 1, 1) := by decide +kernel
theorem dX2_copied_18 : decode cX2_copied 18 = .ok (.getfield 24, 3) := by decide +kernel
theorem dX2_copied_21 : decode cX2_copied 21 = .ok (.iconst 0, 1) := by decide +kernel
theorem dX2_copied_22 : decode cX2_copied 22 = .ok (.aload_n 0, 1) := by decide +kernel
theorem dX2_copied_23 : decode cX2_copied 23 = .ok (.getfield 9, 3) := by decide +kernel
theorem dX2_copied_26 : decode cX2_copied 26 = .ok (.invokestatic 44, 3) := by decide +kernel
theorem dX2_copied_29 : decode cX2_copied 29 = .ok (.aload_n 0, 1) := by decide +kernel
theorem dX2_copied_30 : decode cX2_copied 30 = .ok (.getfield 28, 3) := by decide +kernel
theorem dX2_copied_33 : decode cX2_copied 33 = .ok (.iconst 0, 1) := by decide +kernel
theorem dX2_copied_34 : decode cX2_copied 34 = .ok (.aload_n 1, 1) := by decide +kernel
theorem dX2_copied_35 : decode cX2_copied 35 = .ok (.getfield 28, 3) := by decide +kernel
theorem dX2_copied_38 : decode cX2_copied 38 = .ok (.iconst 0, 1) := by decide +kernel
theorem dX2_copied_39 : decode cX2_copied 39 = .ok (.aload_n 0, 1) := by decide +kernel
theorem dX2_copied_40 : decode cX2_copied 40 = .ok (.getfield 9, 3) := by decide +kernel
theorem dX2_copied_43 : decode cX2_copied 43 = .ok (.invokestatic 44, 3) := by decide +kernel
theorem dX2_copied_46 : decode cX2_copied 46 = .ok (.aload_n 0, 1) := by decide +kernel
theorem dX2_copied_47 : decode cX2_copied 47 = .ok (.getfield 31, 3) := by decide +kernel
theorem dX2_copied_50 : decode cX2_copied 50 = .ok (.iconst 0, 1) := by decide +kernel
theorem dX2_copied_51 : decode cX2_copied 51 = .ok (.aload_n 1, 1) := by decide +kernel
theorem dX2_copied_52 : decode cX2_copied 52 = .ok (.getfield 31, 3) := by decide +kernel
theorem dX2_copied_55 : decode cX2_copied 55 = .ok (.iconst 0, 1) := by decide +kernel
theorem dX2_copied_56 : decode cX2_copied 56 = .ok (.aload_n 0, 1) := by decide +kernel
theorem dX2_copied_57 : decode cX2_copied 57 = .ok (.getfield 9, 3) := by decide +kernel
theorem dX2_copied_60 : decode cX2_copied 60 = .ok (.invokestatic 44, 3) := by decide +kernel
theorem dX2_copied_63 : decode cX2_copied 63 = .ok (.aload_n 0, 1) := by decide +kernel
theorem dX2_copied_64 : decode cX2_copied 64 = .ok (.getfield 34, 3) := by decide +kernel
theorem dX2_copied_67 : decode cX2_copied 67 = .ok (.iconst 0, 1) := by decide +kernel
theorem dX2_copied_68 : decode cX2_copied 68 = .ok (.aload_n 1, 1) := by decide +kernel
theorem dX2_copied_69 : decode cX2_copied 69 = .ok (.getfield 34, 3) := by decide +kernel
theorem dX2_copied_72 : decode cX2_copied 72 = .ok (.iconst 0, 1) := by decide +kernel
theorem dX2_copied_73 : decode cX2_copied 73 = .ok (.aload_n 0, 1) := by decide +kernel
theorem dX2_copied_74 : decode cX2_copied 74 = .ok (.getfield 9, 3) := by decide +kernel
theorem dX2_copied_77 : decode cX2_copied 77 = .ok (.invokestatic 44, 3) := by decide +kernel
theorem dX2_copied_80 : decode cX2_copied 80 = .ok (.aload_n 1, 1) := by decide +kernel
theorem dX2_copied_81 : decode cX2_copied 81 = .ok (.aload_n 0, 1) := by decide +kernel
theorem dX2_copied_82 : decode cX2_copied 82 = .ok (.getfield 9, 3) := by decide +kernel
theorem dX2_copied_85 : decode cX2_copied 85 = .ok (.putfield 9, 3) := by decide +kernel
theorem dX2_copied_88 : decode cX2_copied 88 = .ok (.aload_n 1, 1) := by decide +kernel
theorem dX2_copied_89 : decode cX2_copied 89 = .ok (.aload_n 0, 1) := by decide +kernel
theorem dX2_copied_90 : decode cX2_copied 90 = .ok (.getfield 15, 3) := by decide +kernel
theorem dX2_copied_93 : decode cX2_copied 93 = .ok (.putfield 15, 3) := by decide +kernel
theorem dX2_copied_96 : decode cX2_copied 96 = .ok (.aload_n 1, 1) := by decide +kernel
theorem dX2_copied_97 : decode cX2_copied 97 = .ok (.areturn, 1) := by decide +kernel
theorem dX3_init_0 : decode cX3_init 0 = .ok (.aload_n 0, 1) := by decide +kernel
theorem dX3_init_1 : decode cX3_init 1 = .ok (.invokespecial 3, 3) := by decide +kernel
theorem dX3_init_4 : decode cX3_init 4 = .ok (.aload_n 0, 1) := by decide +kernel
theorem dX3_init_5 : decode cX3_init 5 = .ok (.new 9, 3) := by decide +kernel
theorem dX3_init_8 : decode cX3_init 8 = .ok (.dup, 1) := by decide +kernel
theorem dX3_init_9 : decode cX3_init 9 = .ok (.sipush 1200, 3) := by decide +kernel
theorem dX3_init_12 : decode cX3_init 12 = .ok (.invokespecial 13, 3) := by decide +kernel
theorem dX3_init_15 : decode cX3_init 15 = .ok (.putfield 16, 3) := by decide +kernel
theorem dX3_init_18 : decode cX3_init 18 = .ok (.aload_n 0, 1) := by decide +kernel
theorem dX3_init_19 : decode cX3_init 19 = .ok (.sipush 1200, 3) := by decide +kernel
theorem dX3_init_22 : decode cX3_init 22 = .ok (.newarray .int, 2) := by decide +kernel
theorem dX3_init_24 : decode cX3_init 24 = .ok (.putfield 20, 3) := by decide +kernel
theorem dX3_init_27 : decode cX3_init 27 = .ok (.aload_n 0, 1) := by decide +kernel
theorem dX3_init_28 : decode cX3_init 28 = .ok (.bipush 51, 2) := by decide +kernel
theorem dX3_init_30 : decode cX3_init 30 = .ok (.newarray .int, 2) := by decide +kernel
theorem dX3_init_32 : decode cX3_init 32 = .ok (.putfield 24, 3) := by decide +kernel
theorem dX3_init_35 : decode cX3_init 35 = .ok (.aload_n 0, 1) := by decide +kernel
theorem dX3_init_36 : decode cX3_init 36 = .ok (.iconst 5, 1) := by decide +kernel
theorem dX3_init_37 : decode cX3_init 37 = .ok (.newarray .int, 2) := by decide +kernel
theorem dX3_init_39 : decode cX3_init 39 = .ok (.putfield 27, 3) := by decide +kernel
theorem dX3_init_42 : decode cX3_init 42 = .ok (.aload_n 0, 1) := by decide +kernel
theorem dX3_init_43 : decode cX3_init 43 = .ok (.aload_n 1, 1) := by decide +kernel
theorem dX3_init_44 : decode cX3_init 44 = .ok (.putfield 30, 3) := by decide +kernel
theorem dX3_init_47 : decode cX3_init 47 = .ok (.aload_n 0, 1) := by decide +kernel
theorem dX3_init_48 : decode cX3_init 48 = .ok (.aload_n 2, 1) := by decide +kernel
theorem dX3_init_49 : decode cX3_init 49 = .ok (.putfield 34, 3) := by decide +kernel
theorem dX3_init_52 : decode cX3_init 52 = .ok (.aload_n 0, 1) := by decide +kernel
theorem dX3_init_53 : decode cX3_init 53 = .ok (.aload_n 3, 1) := by decide +kernel
theorem dX3_init_54 : decode cX3_init 54 = .ok (.putfield 38, 3) := by decide +kernel
theorem dX3_init_57 : decode cX3_init 57 = .ok (.aload_n 0, 1) := by decide +kernel
theorem dX3_init_58 : decode cX3_init 58 = .ok (.aload 4, 2) := by decide +kernel
theorem dX3_init_60 : decode cX3_init 60 = .ok (.putfield 42, 3) := by decide +kernel
theorem dX3_init_63 : decode cX3_init 63 = .ok (.return_, 1) := by decide +kernel
theorem dX3_run_0 : decode cX3_run 0 = .ok (.aload_n 0, 1) := by decide +kernel
theorem dX3_run_1 : decode cX3_run 1 = .ok (.getfield 27, 3) := by decide +kernel
theorem dX3_run_4 : decode cX3_run 4 = .ok (.iconst 0, 1) := by decide +kernel
theorem dX3_run_5 : decode cX3_run 5 = .ok (.invokestatic 46, 3) := by decide +kernel
theorem dX3_run_8 : decode cX3_run 8 = .ok (.aload_n 0, 1) := by decide +kernel
theorem dX3_run_9 : decode cX3_run 9 = .ok (.iload_n 2, 1) := by decide +kernel
theorem dX3_run_10 : decode cX3_run 10 = .ok (.invokevirtual 52, 3) := by decide +kernel
theorem dX3_run_13 : decode cX3_run 13 = .ok (.aload_n 0, 1) := by decide +kernel
theorem dX3_run_14 : decode cX3_run 14 = .ok (.iload_n 1, 1) := by decide +kernel
theorem dX3_run_15 : decode cX3_run 15 = .ok (.invokevirtual 55, 3) := by decide +kernel
theorem dX3_run_18 : decode cX3_run 18 = .ok (.iconst 0, 1) := by decide +kernel
theorem dX3_run_19 : decode cX3_run 19 = .ok (.istore_n 3, 1) := by decide +kernel
theorem dX3_run_20 : decode cX3_run 20 = .ok (.iconst 0, 1) := by decide +kernel
theorem dX3_run_21 : decode cX3_run 21 = .ok (.istore 4, 2) := by decide +kernel
theorem dX3_run_23 : decode cX3_run 23 = .ok (.iload 4, 2) := by decide +kernel
theorem dX3_run_25 : decode cX3_run 25 = .ok (.aload_n 0, 1) := by decide +kernel
theorem dX3_run_26 : decode cX3_run 26 = .ok (.getfield 16, 3) := by decide +kernel
theorem dX3_run_29 : decode cX3_run 29 = .ok (.getfield 58, 3) := by decide +kernel
theorem dX3_run_32 : decode cX3_run 32 = .ok (.if_icmp .ge 26, 3) := by decide +kernel
theorem dX3_run_35 : decode cX3_run 35 = .ok (.aload_n 0, 1) := by decide +kernel
theorem dX3_run_36 : decode cX3_run 36 = .ok (.aload_n 0, 1) := by decide +kernel
theorem dX3_run_37 : decode cX3_run 37 = .ok (.getfield 20, 3) := by decide +kernel
theorem dX3_run_40 : decode cX3_run 40 = .ok (.iload 4, 2) := by decide +kernel
theorem dX3_run_42 : decode cX3_run 42 = .ok (.iaload, 1) := by decide +kernel
theorem dX3_run_43 : decode cX3_run 43 = .ok (.invokevirtual 62, 3) := by decide +kernel
theorem dX3_run_46 : decode cX3_run 46 = .ok (.ifCond .eq 6, 3) := by decide +kernel
theorem dX3_run_49 : decode cX3_run 49 = .ok (.iinc 3 1, 3) := by decide +kernel
theorem dX3_run_52 : decode cX3_run 52 = .ok (.iinc 4 1, 3) := by decide +kernel
theorem dX3_run_55 : decode cX3_run 55 = .ok (.goto (-32), 3) := by decide +kernel
theorem dX3_run_58 : decode cX3_run 58 = .ok (.aload_n 0, 1) := by decide +kernel
theorem dX3_run_59 : decode cX3_run 59 = .ok (.getfield 38, 3) := by decide +kernel
theorem dX3_run_62 : decode cX3_run 62 = .ok (.invokevirtual 66, 3) := by decide +kernel
theorem dX3_run_65 : decode cX3_run 65 = .ok (.iload_n 3, 1) := by decide +kernel
theorem dX3_run_66 : decode cX3_run 66 = .ok (.ireturn, 1) := by decide +kernel
theorem dX3_collect_0 : decode cX3_collect 0 = .ok (.aload_n 0, 1) := by decide +kernel
theorem dX3_collect_1 : decode cX3_collect 1 = .ok (.getfield 16, 3) := by decide +kernel
theorem dX3_collect_4 : decode cX3_collect 4 = .ok (.iconst 0, 1) := by decide +kernel
theorem dX3_collect_5 : decode cX3_collect 5 = .ok (.putfield 58, 3) := by decide +kernel
theorem dX3_collect_8 : decode cX3_collect 8 = .ok (.iconst 0, 1) := by decide +kernel
theorem dX3_collect_9 : decode cX3_collect 9 = .ok (.istore_n 2, 1) := by decide +kernel
theorem dX3_collect_10 : decode cX3_collect 10 = .ok (.iload_n 2, 1) := by decide +kernel
theorem dX3_collect_11 : decode cX3_collect 11 = .ok (.aload_n 0, 1) := by decide +kernel
theorem dX3_collect_12 : decode cX3_collect 12 = .ok (.getfield 30, 3) := by decide +kernel
theorem dX3_collect_15 : decode cX3_collect 15 = .ok (.getfield 71, 3) := by decide +kernel
theorem dX3_collect_18 : decode cX3_collect 18 = .ok (.if_icmp .ge 69, 3) := by decide +kernel
theorem dX3_collect_21 : decode cX3_collect 21 = .ok (.aload_n 0, 1) := by decide +kernel
theorem dX3_collect_22 : decode cX3_collect 22 = .ok (.getfield 38, 3) := by decide +kernel
theorem dX3_collect_25 : decode cX3_collect 25 = .ok (.iload_n 2, 1) := by decide +kernel
theorem dX3_collect_26 : decode cX3_collect 26 = .ok (.invokevirtual 76, 3) := by decide +kernel
theorem dX3_collect_29 : decode cX3_collect 29 = .ok (.astore_n 3, 1) := by decide +kernel
theorem dX3_collect_30 : decode cX3_collect 30 = .ok (.iconst 0, 1) := by decide +kernel
theorem dX3_collect_31 : decode cX3_collect 31 = .ok (.istore 4, 2) := by decide +kernel
theorem dX3_collect_33 : decode cX3_collect 33 = .ok (.iload 4, 2) := by decide +kernel
theorem dX3_collect_35 : decode cX3_collect 35 = .ok (.aload_n 3, 1) := by decide +kernel
theorem dX3_collect_36 : decode cX3_collect 36 = .ok (.getfield 58, 3) := by decide +kernel
theorem dX3_collect_39 : decode cX3_collect 39 = .ok (.if_icmp .ge 42, 3) := by decide +kernel
theorem dX3_collect_42 : decode cX3_collect 42 = .ok (.aload_n 3, 1) := by decide +kernel
theorem dX3_collect_43 : decode cX3_collect 43 = .ok (.iload 4, 2) := by decide +kernel
theorem dX3_collect_45 : decode cX3_collect 45 = .ok (.iload_n 1, 1) := by decide +kernel
theorem dX3_collect_46 : decode cX3_collect 46 = .ok (.invokevirtual 80, 3) := by decide +kernel
theorem dX3_collect_49 : decode cX3_collect 49 = .ok (.ifCond .eq 16, 3) := by decide +kernel
theorem dX3_collect_52 : decode cX3_collect 52 = .ok (.aload_n 0, 1) := by decide +kernel
theorem dX3_collect_53 : decode cX3_collect 53 = .ok (.getfield 27, 3) := by decide +kernel
theorem dX3_collect_56 : decode cX3_collect 56 = .ok (.iconst 1, 1) := by decide +kernel
theorem dX3_collect_57 : decode cX3_collect 57 = .ok (.dup2, 1) := by decide +kernel
theorem dX3_collect_58 : decode cX3_collect 58 = .ok (.iaload, 1) := by decide +kernel
theorem dX3_collect_59 : decode cX3_collect 59 = .ok (.iconst 1, 1) := by decide +kernel
theorem dX3_collect_60 : decode cX3_collect 60 = .ok (.iadd, 1) := by decide +kernel
theorem dX3_collect_61 : decode cX3_collect 61 = .ok (.iastore, 1) := by decide +kernel
theorem dX3_collect_62 : decode cX3_collect 62 = .ok (.goto 13, 3) := by decide +kernel
theorem dX3_collect_65 : decode cX3_collect 65 = .ok (.aload_n 0, 1) := by decide +kernel
theorem dX3_collect_66 : decode cX3_collect 66 = .ok (.getfield 16, 3) := by decide +kernel
theorem dX3_collect_69 : decode cX3_collect 69 = .ok (.aload_n 3, 1) := by decide +kernel
theorem dX3_collect_70 : decode cX3_collect 70 = .ok (.iload 4, 2) := by decide +kernel
theorem dX3_collect_72 : decode cX3_collect 72 = .ok (.invokevirtual 84, 3) := by decide +kernel
theorem dX3_collect_75 : decode cX3_collect 75 = .ok (.iinc 4 1, 3) := by decide +kernel
theorem dX3_collect_78 : decode cX3_collect 78 = .ok (.goto (-45), 3) := by decide +kernel
theorem dX3_collect_81 : decode cX3_collect 81 = .ok (.iinc 2 1, 3) := by decide +kernel
theorem dX3_collect_84 : decode cX3_collect 84 = .ok (.goto (-74), 3) := by decide +kernel
theorem dX3_collect_87 : decode cX3_collect 87 = .ok (.return_, 1) := by decide +kernel
theorem dX3_arrange_0 : decode cX3_arrange 0 = .ok (.aload_n 0, 1) := by decide +kernel
theorem dX3_arrange_1 : decode cX3_arrange 1 = .ok (.getfield 24, 3) := by decide +kernel
theorem dX3_arrange_4 : decode cX3_arrange 4 = .ok (.iconst 0, 1) := by decide +kernel
theorem dX3_arrange_5 : decode cX3_arrange 5 = .ok (.invokestatic 46, 3) := by decide +kernel
theorem dX3_arrange_8 : decode cX3_arrange 8 = .ok (.iconst 0, 1) := by decide +kernel
theorem dX3_arrange_9 : decode cX3_arrange 9 = .ok (.istore_n 2, 1) := by decide +kernel
theorem dX3_arrange_10 : decode cX3_arrange 10 = .ok (.iload_n 2, 1) := by decide +kernel
theorem dX3_arrange_11 : decode cX3_arrange 11 = .ok (.aload_n 0, 1) := by decide +kernel
theorem dX3_arrange_12 : decode cX3_arrange 12 = .ok (.getfield 16, 3) := by decide +kernel
theorem dX3_arrange_15 : decode cX3_arrange 15 = .ok (.getfield 58, 3) := by decide +kernel
theorem dX3_arrange_18 : decode cX3_arrange 18 = .ok (.if_icmp .ge 26, 3) := by decide +kernel
theorem dX3_arrange_21 : decode cX3_arrange 21 = .ok (.aload_n 0, 1) := by decide +kernel
theorem dX3_arrange_22 : decode cX3_arrange 22 = .ok (.getfield 24, 3) := by decide +kernel
theorem dX3_arrange_25 : decode cX3_arrange 25 = .ok (.aload_n 0, 1) := by decide +kernel
theorem dX3_arrange_26 : decode cX3_arrange 26 = .ok (.iload_n 1, 1) := by decide +kernel
theorem dX3_arrange_27 : decode cX3_arrange 27 = .ok (.iload_n 2, 1) := by decide +kernel
theorem dX3_arrange_28 : decode cX3_arrange 28 = .ok (.invokevirtual 88, 3) := by decide +kernel
theorem dX3_arrange_31 : decode cX3_arrange 31 = .ok (.iconst 1, 1) := by decide +kernel
theorem dX3_arrange_32 : decode cX3_arrange 32 = .ok (.iadd, 1) := by decide +kernel
theorem dX3_arrange_33 : decode cX3_arrange 33 = .ok (.dup2, 1) := by decide +kernel
theorem dX3_arrange_34 : decode cX3_arrange 34 = .ok (.iaload, 1) := by decide +kernel
theorem dX3_arrange_35 : decode cX3_arrange 35 = .ok (.iconst 1, 1) := by decide +kernel
theorem dX3_arrange_36 : decode cX3_arrange 36 = .ok (.iadd, 1) := by decide +kernel
theorem dX3_arrange_37 : decode cX3_arrange 37 = .ok (.iastore, 1) := by decide +kernel
theorem dX3_arrange_38 : decode cX3_arrange 38 = .ok (.iinc 2 1, 3) := by decide +kernel
theorem dX3_arrange_41 : decode cX3_arrange 41 = .ok (.goto (-31), 3) := by decide +kernel
theorem dX3_arrange_44 : decode cX3_arrange 44 = .ok (.iconst 1, 1) := by decide +kernel
theorem dX3_arrange_45 : decode cX3_arrange 45 = .ok (.istore_n 2, 1) := by decide +kernel
theorem dX3_arrange_46 : decode cX3_arrange 46 = .ok (.iload_n 2, 1) := by decide +kernel
theorem dX3_arrange_47 : decode cX3_arrange 47 = .ok (.bipush 50, 2) := by decide +kernel
theorem dX3_arrange_49 : decode cX3_arrange 49 = .ok (.if_icmp .gt 26, 3) := by decide +kernel
theorem dX3_arrange_52 : decode cX3_arrange 52 = .ok (.aload_n 0, 1) := by decide +kernel
theorem dX3_arrange_53 : decode cX3_arrange 53 = .ok (.getfield 24, 3) := by decide +kernel
theorem dX3_arrange_56 : decode cX3_arrange 56 = .ok (.iload_n 2, 1) := by decide +kernel
theorem dX3_arrange_57 : decode cX3_arrange 57 = .ok (.dup2, 1) := by decide +kernel
theorem dX3_arrange_58 : decode cX3_arrange 58 = .ok (.iaload, 1) := by decide +kernel
theorem dX3_arrange_59 : decode cX3_arrange 59 = .ok (.aload_n 0, 1) := by decide +kernel
theorem dX3_arrange_60 : decode cX3_arrange 60 = .ok (.getfield 24, 3) := by decide +kernel
theorem dX3_arrange_63 : decode cX3_arrange 63 = .ok (.iload_n 2, 1) := by decide +kernel
theorem dX3_arrange_64 : decode cX3_arrange 64 = .ok (.iconst 1, 1) := by decide +kernel
theorem dX3_arrange_65 : decode cX3_arrange 65 = .ok (.isub, 1) := by decide +kernel
theorem dX3_arrange_66 : decode cX3_arrange 66 = .ok (.iaload, 1) := by decide +kernel
theorem dX3_arrange_67 : decode cX3_arrange 67 = .ok (.iadd, 1) := by decide +kernel
theorem dX3_arrange_68 : decode cX3_arrange 68 = .ok (.iastore, 1) := by decide +kernel
theorem dX3_arrange_69 : decode cX3_arrange 69 = .ok (.iinc 2 1, 3) := by decide +kernel
theorem dX3_arrange_72 : decode cX3_arrange 72 = .ok (.goto (-26), 3) := by decide +kernel
theorem dX3_arrange_75 : decode cX3_arrange 75 = .ok (.iconst 0, 1) := by decide +kernel
theorem dX3_arrange_76 : decode cX3_arrange 76 = .ok (.istore_n 2, 1) := by decide +kernel
theorem dX3_arrange_77 : decode cX3_arrange 77 = .ok (.iload_n 2, 1) := by decide +kernel
theorem dX3_arrange_78 : decode cX3_arrange 78 = .ok (.aload_n 0, 1) := by decide +kernel
theorem dX3_arrange_79 : decode cX3_arrange 79 = .ok (.getfield 16, 3) := by decide +kernel
theorem dX3_arrange_82 : decode cX3_arrange 82 = .ok (.getfield 58, 3) := by decide +kernel
theorem dX3_arrange_85 : decode cX3_arrange 85 = .ok (.if_icmp .ge 55, 3) := by decide +kernel
theorem dX3_arrange_88 : decode cX3_arrange 88 = .ok (.aload_n 0, 1) := by decide +kernel
theorem dX3_arrange_89 : decode cX3_arrange 89 = .ok (.iload_n 1, 1) := by decide +kernel
theorem dX3_arrange_90 : decode cX3_arrange 90 = .ok (.iload_n 2, 1) := by decide +kernel
theorem dX3_arrange_91 : decode cX3_arrange 91 = .ok (.invokevirtual 88, 3) := by decide +kernel
theorem dX3_arrange_94 : decode cX3_arrange 94 = .ok (.istore_n 3, 1) := by decide +kernel
theorem dX3_arrange_95 : decode cX3_arrange 95 = .ok (.aload_n 0, 1) := by decide +kernel
theorem dX3_arrange_96 : decode cX3_arrange 96 = .ok (.getfield 24, 3) := by decide +kernel
theorem dX3_arrange_99 : decode cX3_arrange 99 = .ok (.iload_n 3, 1) := by decide +kernel
theorem dX3_arrange_100 : decode cX3_arrange 100 = .ok (.iaload, 1) := by decide +kernel
theorem dX3_arrange_101 : decode cX3_arrange 101 = .ok (.istore 4, 2) := by decide +kernel
theorem dX3_arrange_103 : decode cX3_arrange 103 = .ok (.aload_n 0, 1) := by decide +kernel
theorem dX3_arrange_104 : decode cX3_arrange 104 = .ok (.getfield 24, 3) := by decide +kernel
theorem dX3_arrange_107 : decode cX3_arrange 107 = .ok (.iload_n 3, 1) := by decide +kernel
theorem dX3_arrange_108 : decode cX3_arrange 108 = .ok (.dup2, 1) := by decide +kernel
theorem dX3_arrange_109 : decode cX3_arrange 109 = .ok (.iaload, 1) := by decide +kernel
theorem dX3_arrange_110 : decode cX3_arrange 110 = .ok (.iconst 1, 1) := by decide +kernel
theorem dX3_arrange_111 : decode cX3_arrange 111 = .ok (.iadd, 1) := by decide +kernel
theorem dX3_arrange_112 : decode cX3_arrange 112 = .ok (.iastore, 1) := by decide +kernel
theorem dX3_arrange_113 : decode cX3_arrange 113 = .ok (.iload 4, 2) := by decide +kernel
theorem dX3_arrange_115 : decode cX3_arrange 115 = .ok (.ifCond .lt 19, 3) := by decide +kernel
theorem dX3_arrange_118 : decode cX3_arrange 118 = .ok (.iload 4, 2) := by decide +kernel
theorem dX3_arrange_120 : decode cX3_arrange 120 = .ok (.sipush 1200, 3) := by decide +kernel
theorem dX3_arrange_123 : decode cX3_arrange 123 = .ok (.if_icmp .ge 11, 3) := by decide +kernel
theorem dX3_arrange_126 : decode cX3_arrange 126 = .ok (.aload_n 0, 1) := by decide +kernel
theorem dX3_arrange_127 : decode cX3_arrange 127 = .ok (.getfield 20, 3) := by decide +kernel
theorem dX3_arrange_130 : decode cX3_arrange 130 = .ok (.iload 4, 2) := by decide +kernel
theorem dX3_arrange_132 : decode cX3_arrange 132 = .ok (.iload_n 2, 1) := by decide +kernel
theorem dX3_arrange_133 : decode cX3_arrange 133 = .ok (.iastore, 1) := by decide +kernel
theorem dX3_arrange_134 : decode cX3_arrange 134 = .ok (.iinc 2 1, 3) := by decide +kernel
theorem dX3_arrange_137 : decode cX3_arrange 137 = .ok (.goto (-60), 3) := by decide +kernel
theorem dX3_arrange_140 : decode cX3_arrange 140 = .ok (.return_, 1) := by decide +kernel
theorem dX3_keyOf_0 : decode cX3_keyOf 0 = .ok (.iload_n 1, 1) := by decide +kernel
theorem dX3_keyOf_1 : decode cX3_keyOf 1 = .ok (.tableswitch 68 1 3 #[27, 40, 55], 27) := by decide +kernel
theorem dX3_keyOf_28 : decode cX3_keyOf 28 = .ok (.aload_n 0, 1) := by decide +kernel
theorem dX3_keyOf_29 : decode cX3_keyOf 29 = .ok (.getfield 16, 3) := by decide +kernel
theorem dX3_keyOf_32 : decode cX3_keyOf 32 = .ok (.iload_n 2, 1) := by decide +kernel
theorem dX3_keyOf_33 : decode cX3_keyOf 33 = .ok (.iconst 4, 1) := by decide +kernel
theorem dX3_keyOf_34 : decode cX3_keyOf 34 = .ok (.invokevirtual 92, 3) := by decide +kernel
theorem dX3_keyOf_37 : decode cX3_keyOf 37 = .ok (.istore_n 3, 1) := by decide +kernel
theorem dX3_keyOf_38 : decode cX3_keyOf 38 = .ok (.goto 41, 3) := by decide +kernel
theorem dX3_keyOf_41 : decode cX3_keyOf 41 = .ok (.iconst 5, 1) := by decide +kernel
theorem dX3_keyOf_42 : decode cX3_keyOf 42 = .ok (.aload_n 0, 1) := by decide +kernel
theorem dX3_keyOf_43 : decode cX3_keyOf 43 = .ok (.getfield 16, 3) := by decide +kernel
theorem dX3_keyOf_46 : decode cX3_keyOf 46 = .ok (.iload_n 2, 1) := by decide +kernel
theorem dX3_keyOf_47 : decode cX3_keyOf 47 = .ok (.iconst 5, 1) := by decide +kernel
theorem dX3_keyOf_48 : decode cX3_keyOf 48 = .ok (.invokevirtual 92, 3) := by decide +kernel
theorem dX3_keyOf_51 : decode cX3_keyOf 51 = .ok (.isub, 1) := by decide +kernel
theorem dX3_keyOf_52 : decode cX3_keyOf 52 = .ok (.istore_n 3, 1) := by decide +kernel
theorem dX3_keyOf_53 : decode cX3_keyOf 53 = .ok (.goto 26, 3) := by decide +kernel
theorem dX3_keyOf_56 : decode cX3_keyOf 56 = .ok (.aload_n 0, 1) := by decide +kernel
theorem dX3_keyOf_57 : decode cX3_keyOf 57 = .ok (.getfield 16, 3) := by decide +kernel
theorem dX3_keyOf_60 : decode cX3_keyOf 60 = .ok (.iload_n 2, 1) := by decide +kernel
theorem dX3_keyOf_61 : decode cX3_keyOf 61 = .ok (.iconst 3, 1) := by decide +kernel
theorem dX3_keyOf_62 : decode cX3_keyOf 62 = .ok (.invokevirtual 92, 3) := by decide +kernel
theorem dX3_keyOf_65 : decode cX3_keyOf 65 = .ok (.istore_n 3, 1) := by decide +kernel
theorem dX3_keyOf_66 : decode cX3_keyOf 66 = .ok (.goto 13, 3) := by decide +kernel
theorem dX3_keyOf_69 : decode cX3_keyOf 69 = .ok (.aload_n 0, 1) := by decide +kernel
theorem dX3_keyOf_70 : decode cX3_keyOf 70 = .ok (.getfield 16, 3) := by decide +kernel
theorem dX3_keyOf_73 : decode cX3_keyOf 73 = .ok (.iload_n 2, 1) := by decide +kernel
theorem dX3_keyOf_74 : decode cX3_keyOf 74 = .ok (.iconst 5, 1) := by decide +kernel
theorem dX3_keyOf_75 : decode cX3_keyOf 75 = .ok (.invokevirtual 92, 3) := by decide +kernel
theorem dX3_keyOf_78 : decode cX3_keyOf 78 = .ok (.istore_n 3, 1) := by decide +kernel
theorem dX3_keyOf_79 : decode cX3_keyOf 79 = .ok (.iconst 0, 1) := by decide +kernel
theorem dX3_keyOf_80 : decode cX3_keyOf 80 = .ok (.bipush 49, 2) := by decide +kernel
theorem dX3_keyOf_82 : decode cX3_keyOf 82 = .ok (.iload_n 3, 1) := by decide +kernel
theorem dX3_keyOf_83 : decode cX3_keyOf 83 = .ok (.invokestatic 95, 3) := by decide +kernel
theorem dX3_keyOf_86 : decode cX3_keyOf 86 = .ok (.invokestatic 100, 3) := by decide +kernel
theorem dX3_keyOf_89 : decode cX3_keyOf 89 = .ok (.ireturn, 1) := by decide +kernel
theorem dX3_doOne_0 : decode cX3_doOne 0 = .ok (.aload_n 0, 1) := by decide +kernel
theorem dX3_doOne_1 : decode cX3_doOne 1 = .ok (.getfield 30, 3) := by decide +kernel
theorem dX3_doOne_4 : decode cX3_doOne 4 = .ok (.getfield 103, 3) := by decide +kernel
theorem dX3_doOne_7 : decode cX3_doOne 7 = .ok (.astore_n 2, 1) := by decide +kernel
theorem dX3_doOne_8 : decode cX3_doOne 8 = .ok (.aload_n 2, 1) := by decide +kernel
theorem dX3_doOne_9 : decode cX3_doOne 9 = .ok (.getfield 107, 3) := by decide +kernel
theorem dX3_doOne_12 : decode cX3_doOne 12 = .ok (.istore_n 3, 1) := by decide +kernel
theorem dX3_doOne_13 : decode cX3_doOne 13 = .ok (.aload_n 2, 1) := by decide +kernel
theorem dX3_doOne_14 : decode cX3_doOne 14 = .ok (.iload_n 3, 1) := by decide +kernel
theorem dX3_doOne_15 : decode cX3_doOne 15 = .ok (.invokevirtual 110, 3) := by decide +kernel
theorem dX3_doOne_18 : decode cX3_doOne 18 = .ok (.istore 4, 2) := by decide +kernel
theorem dX3_doOne_20 : decode cX3_doOne 20 = .ok (.aload_n 0, 1) := by decide +kernel
theorem dX3_doOne_21 : decode cX3_doOne 21 = .ok (.aload_n 0, 1) := by decide +kernel
theorem dX3_doOne_22 : decode cX3_doOne 22 = .ok (.getfield 16, 3) := by decide +kernel
theorem dX3_doOne_25 : decode cX3_doOne 25 = .ok (.iload_n 1, 1) := by decide +kernel
theorem dX3_doOne_26 : decode cX3_doOne 26 = .ok (.invokevirtual 114, 3) := by decide +kernel
theorem dX3_doOne_29 : decode cX3_doOne 29 = .ok (.istore 5, 2) := by decide +kernel
theorem dX3_doOne_31 : decode cX3_doOne 31 = .ok (.iload 5, 2) := by decide +kernel
theorem dX3_doOne_33 : decode cX3_doOne 33 = .ok (.iconst (-1), 1) := by decide +kernel
theorem dX3_doOne_34 : decode cX3_doOne 34 = .ok (.if_icmp .ne 15, 3) := by decide +kernel
theorem dX3_doOne_37 : decode cX3_doOne 37 = .ok (.aload_n 0, 1) := by decide +kernel
theorem dX3_doOne_38 : decode cX3_doOne 38 = .ok (.getfield 27, 3) := by decide +kernel
theorem dX3_doOne_41 : decode cX3_doOne 41 = .ok (.iconst 2, 1) := by decide +kernel
theorem dX3_doOne_42 : decode cX3_doOne 42 = .ok (.dup2, 1) := by decide +kernel
theorem dX3_doOne_43 : decode cX3_doOne 43 = .ok (.iaload, 1) := by decide +kernel
theorem dX3_doOne_44 : decode cX3_doOne 44 = .ok (.iconst 1, 1) := by decide +kernel
theorem dX3_doOne_45 : decode cX3_doOne 45 = .ok (.iadd, 1) := by decide +kernel
theorem dX3_doOne_46 : decode cX3_doOne 46 = .ok (.iastore, 1) := by decide +kernel
theorem dX3_doOne_47 : decode cX3_doOne 47 = .ok (.iconst 0, 1) := by decide +kernel
theorem dX3_doOne_48 : decode cX3_doOne 48 = .ok (.ireturn, 1) := by decide +kernel
theorem dX3_doOne_49 : decode cX3_doOne 49 = .ok (.aload_n 0, 1) := by decide +kernel
theorem dX3_doOne_50 : decode cX3_doOne 50 = .ok (.getfield 27, 3) := by decide +kernel
theorem dX3_doOne_53 : decode cX3_doOne 53 = .ok (.iconst 0, 1) := by decide +kernel
theorem dX3_doOne_54 : decode cX3_doOne 54 = .ok (.dup2, 1) := by decide +kernel
theorem dX3_doOne_55 : decode cX3_doOne 55 = .ok (.iaload, 1) := by decide +kernel
theorem dX3_doOne_56 : decode cX3_doOne 56 = .ok (.iconst 1, 1) := by decide +kernel
theorem dX3_doOne_57 : decode cX3_doOne 57 = .ok (.iadd, 1) := by decide +kernel
theorem dX3_doOne_58 : decode cX3_doOne 58 = .ok (.iastore, 1) := by decide +kernel
theorem dX3_doOne_59 : decode cX3_doOne 59 = .ok (.aload_n 2, 1) := by decide +kernel
theorem dX3_doOne_60 : decode cX3_doOne 60 = .ok (.getfield 107, 3) := by decide +kernel
theorem dX3_doOne_63 : decode cX3_doOne 63 = .ok (.iload_n 3, 1) := by decide +kernel
theorem dX3_doOne_64 : decode cX3_doOne 64 = .ok (.isub, 1) := by decide +kernel
theorem dX3_doOne_65 : decode cX3_doOne 65 = .ok (.istore 6, 2) := by decide +kernel
theorem dX3_doOne_67 : decode cX3_doOne 67 = .ok (.aload_n 2, 1) := by decide +kernel
theorem dX3_doOne_68 : decode cX3_doOne 68 = .ok (.iload 5, 2) := by decide +kernel
theorem dX3_doOne_70 : decode cX3_doOne 70 = .ok (.aload_n 0, 1) := by decide +kernel
theorem dX3_doOne_71 : decode cX3_doOne 71 = .ok (.getfield 16, 3) := by decide +kernel
theorem dX3_doOne_74 : decode cX3_doOne 74 = .ok (.iload_n 1, 1) := by decide +kernel
theorem dX3_doOne_75 : decode cX3_doOne 75 = .ok (.iconst 3, 1) := by decide +kernel
theorem dX3_doOne_76 : decode cX3_doOne 76 = .ok (.invokevirtual 92, 3) := by decide +kernel
theorem dX3_doOne_79 : decode cX3_doOne 79 = .ok (.invokevirtual 118, 3) := by decide +kernel
theorem dX3_doOne_82 : decode cX3_doOne 82 = .ok (.istore 7, 2) := by decide +kernel
theorem dX3_doOne_84 : decode cX3_doOne 84 = .ok (.iload 6, 2) := by decide +kernel
theorem dX3_doOne_86 : decode cX3_doOne 86 = .ok (.ifCond .ne 10, 3) := by decide +kernel
theorem dX3_doOne_89 : decode cX3_doOne 89 = .ok (.iload 7, 2) := by decide +kernel
theorem dX3_doOne_91 : decode cX3_doOne 91 = .ok (.ifCond .ne 5, 3) := by decide +kernel
theorem dX3_doOne_94 : decode cX3_doOne 94 = .ok (.iconst 0, 1) := by decide +kernel
theorem dX3_doOne_95 : decode cX3_doOne 95 = .ok (.ireturn, 1) := by decide +kernel
theorem dX3_doOne_96 : decode cX3_doOne 96 = .ok (.aload_n 0, 1) := by decide +kernel
theorem dX3_doOne_97 : decode cX3_doOne 97 = .ok (.getfield 34, 3) := by decide +kernel
theorem dX3_doOne_100 : decode cX3_doOne 100 = .ok (.aload_n 2, 1) := by decide +kernel
theorem dX3_doOne_101 : decode cX3_doOne 101 = .ok (.invokevirtual 121, 3) := by decide +kernel
theorem dX3_doOne_104 : decode cX3_doOne 104 = .ok (.aload_n 0, 1) := by decide +kernel
theorem dX3_doOne_105 : decode cX3_doOne 105 = .ok (.getfield 27, 3) := by decide +kernel
theorem dX3_doOne_108 : decode cX3_doOne 108 = .ok (.iconst 3, 1) := by decide +kernel
theorem dX3_doOne_109 : decode cX3_doOne 109 = .ok (.dup2, 1) := by decide +kernel
theorem dX3_doOne_110 : decode cX3_doOne 110 = .ok (.iaload, 1) := by decide +kernel
theorem dX3_doOne_111 : decode cX3_doOne 111 = .ok (.iload 6, 2) := by decide +kernel
theorem dX3_doOne_113 : decode cX3_doOne 113 = .ok (.iadd, 1) := by decide +kernel
theorem dX3_doOne_114 : decode cX3_doOne 114 = .ok (.iastore, 1) := by decide +kernel
theorem dX3_doOne_115 : decode cX3_doOne 115 = .ok (.aload_n 2, 1) := by decide +kernel
theorem dX3_doOne_116 : decode cX3_doOne 116 = .ok (.iload_n 3, 1) := by decide +kernel
theorem dX3_doOne_117 : decode cX3_doOne 117 = .ok (.invokevirtual 110, 3) := by decide +kernel
theorem dX3_doOne_120 : decode cX3_doOne 120 = .ok (.iload 4, 2) := by decide +kernel
theorem dX3_doOne_122 : decode cX3_doOne 122 = .ok (.if_icmp .ge 7, 3) := by decide +kernel
theorem dX3_doOne_125 : decode cX3_doOne 125 = .ok (.iconst 1, 1) := by decide +kernel
theorem dX3_doOne_126 : decode cX3_doOne 126 = .ok (.goto 4, 3) := by decide +kernel
theorem dX3_doOne_129 : decode cX3_doOne 129 = .ok (.iconst 0, 1) := by decide +kernel
theorem dX3_doOne_130 : decode cX3_doOne 130 = .ok (.istore 8, 2) := by decide +kernel
theorem dX3_doOne_132 : decode cX3_doOne 132 = .ok (.iload 8, 2) := by decide +kernel
theorem dX3_doOne_134 : decode cX3_doOne 134 = .ok (.ifCond .eq 13, 3) := by decide +kernel
theorem dX3_doOne_137 : decode cX3_doOne 137 = .ok (.aload_n 0, 1) := by decide +kernel
theorem dX3_doOne_138 : decode cX3_doOne 138 = .ok (.getfield 27, 3) := by decide +kernel
theorem dX3_doOne_141 : decode cX3_doOne 141 = .ok (.iconst 4, 1) := by decide +kernel
theorem dX3_doOne_142 : decode cX3_doOne 142 = .ok (.dup2, 1) := by decide +kernel
theorem dX3_doOne_143 : decode cX3_doOne 143 = .ok (.iaload, 1) := by decide +kernel
theorem dX3_doOne_144 : decode cX3_doOne 144 = .ok (.iconst 1, 1) := by decide +kernel
theorem dX3_doOne_145 : decode cX3_doOne 145 = .ok (.iadd, 1) := by decide +kernel
theorem dX3_doOne_146 : decode cX3_doOne 146 = .ok (.iastore, 1) := by decide +kernel
theorem dX3_doOne_147 : decode cX3_doOne 147 = .ok (.iload 6, 2) := by decide +kernel
theorem dX3_doOne_149 : decode cX3_doOne 149 = .ok (.ifCond .gt 8, 3) := by decide +kernel
theorem dX3_doOne_152 : decode cX3_doOne 152 = .ok (.iload 8, 2) := by decide +kernel
theorem dX3_doOne_154 : decode cX3_doOne 154 = .ok (.ifCond .eq 7, 3) := by decide +kernel
theorem dX3_doOne_157 : decode cX3_doOne 157 = .ok (.iconst 1, 1) := by decide +kernel
theorem dX3_doOne_158 : decode cX3_doOne 158 = .ok (.goto 4, 3) := by decide +kernel
theorem dX3_doOne_161 : decode cX3_doOne 161 = .ok (.iconst 0, 1) := by decide +kernel
theorem dX3_doOne_162 : decode cX3_doOne 162 = .ok (.ireturn, 1) := by decide +kernel
theorem dX3_buildRight_0 : decode cX3_buildRight 0 = .ok (.iconst 0, 1) := by decide +kernel
theorem dX3_buildRight_1 : decode cX3_buildRight 1 = .ok (.istore_n 3, 1) := by decide +kernel
theorem dX3_buildRight_2 : decode cX3_buildRight 2 = .ok (.iload_n 3, 1) := by decide +kernel
theorem dX3_buildRight_3 : decode cX3_buildRight 3 = .ok (.iconst 3, 1) := by decide +kernel
theorem dX3_buildRight_4 : decode cX3_buildRight 4 = .ok (.if_icmp .ge 34, 3) := by decide +kernel
theorem dX3_buildRight_7 : decode cX3_buildRight 7 = .ok (.aload_n 0, 1) := by decide +kernel
theorem dX3_buildRight_8 : decode cX3_buildRight 8 = .ok (.getfield 42, 3) := by decide +kernel
theorem dX3_buildRight_11 : decode cX3_buildRight 11 = .ok (.getfield 127, 3) := by decide +kernel
theorem dX3_buildRight_14 : decode cX3_buildRight 14 = .ok (.iload_n 3, 1) := by decide +kernel
theorem dX3_buildRight_15 : decode cX3_buildRight 15 = .ok (.aload_n 0, 1) := by decide +kernel
theorem dX3_buildRight_16 : decode cX3_buildRight 16 = .ok (.getfield 30, 3) := by decide +kernel
theorem dX3_buildRight_19 : decode cX3_buildRight 19 = .ok (.getfield 103, 3) := by decide +kernel
theorem dX3_buildRight_22 : decode cX3_buildRight 22 = .ok (.aload_n 1, 1) := by decide +kernel
theorem dX3_buildRight_23 : decode cX3_buildRight 23 = .ok (.iload_n 2, 1) := by decide +kernel
theorem dX3_buildRight_24 : decode cX3_buildRight 24 = .ok (.iload_n 3, 1) := by decide +kernel
theorem dX3_buildRight_25 : decode cX3_buildRight 25 = .ok (.invokevirtual 92, 3) := by decide +kernel
theorem dX3_buildRight_28 : decode cX3_buildRight 28 = .ok (.invokevirtual 132, 3) := by decide +kernel
theorem dX3_buildRight_31 : decode cX3_buildRight 31 = .ok (.iastore, 1) := by decide +kernel
theorem dX3_buildRight_32 : decode cX3_buildRight 32 = .ok (.iinc 3 1, 3) := by decide +kernel
theorem dX3_buildRight_35 : decode cX3_buildRight 35 = .ok (.goto (-33), 3) := by decide +kernel
theorem dX3_buildRight_38 : decode cX3_buildRight 38 = .ok (.aload_n 0, 1) := by decide +kernel
theorem dX3_buildRight_39 : decode cX3_buildRight 39 = .ok (.getfield 30, 3) := by decide +kernel
theorem dX3_buildRight_42 : decode cX3_buildRight 42 = .ok (.aload_n 1, 1) := by decide +kernel
theorem dX3_buildRight_43 : decode cX3_buildRight 43 = .ok (.iload_n 2, 1) := by decide +kernel
theorem dX3_buildRight_44 : decode cX3_buildRight 44 = .ok (.iconst 5, 1) := by decide +kernel
theorem dX3_buildRight_45 : decode cX3_buildRight 45 = .ok (.invokevirtual 92, 3) := by decide +kernel
theorem dX3_buildRight_48 : decode cX3_buildRight 48 = .ok (.invokevirtual 135, 3) := by decide +kernel
theorem dX3_buildRight_51 : decode cX3_buildRight 51 = .ok (.astore_n 3, 1) := by decide +kernel
theorem dX3_buildRight_52 : decode cX3_buildRight 52 = .ok (.aload_n 0, 1) := by decide +kernel
theorem dX3_buildRight_53 : decode cX3_buildRight 53 = .ok (.getfield 42, 3) := by decide +kernel
theorem dX3_buildRight_56 : decode cX3_buildRight 56 = .ok (.aload_n 3, 1) := by decide +kernel
theorem dX3_buildRight_57 : decode cX3_buildRight 57 = .ok (.aload_n 3, 1) := by decide +kernel
theorem dX3_buildRight_58 : decode cX3_buildRight 58 = .ok (.getfield 139, 3) := by decide +kernel
theorem dX3_buildRight_61 : decode cX3_buildRight 61 = .ok (.aload_n 3, 1) := by decide +kernel
theorem dX3_buildRight_62 : decode cX3_buildRight 62 = .ok (.getfield 144, 3) := by decide +kernel
theorem dX3_buildRight_65 : decode cX3_buildRight 65 = .ok (.aload_n 1, 1) := by decide +kernel
theorem dX3_buildRight_66 : decode cX3_buildRight 66 = .ok (.iload_n 2, 1) := by decide +kernel
theorem dX3_buildRight_67 : decode cX3_buildRight 67 = .ok (.iconst 4, 1) := by decide +kernel
theorem dX3_buildRight_68 : decode cX3_buildRight 68 = .ok (.invokevirtual 92, 3) := by decide +kernel
theorem dX3_buildRight_71 : decode cX3_buildRight 71 = .ok (.invokevirtual 145, 3) := by decide +kernel
theorem dX3_buildRight_74 : decode cX3_buildRight 74 = .ok (.ireturn, 1) := by decide +kernel
theorem dX3_wouldChange_0 : decode cX3_wouldChange 0 = .ok (.iconst 0, 1) := by decide +kernel
theorem dX3_wouldChange_1 : decode cX3_wouldChange 1 = .ok (.istore_n 2, 1) := by decide +kernel
theorem dX3_wouldChange_2 : decode cX3_wouldChange 2 = .ok (.iload_n 2, 1) := by decide +kernel
theorem dX3_wouldChange_3 : decode cX3_wouldChange 3 = .ok (.aload_n 0, 1) := by decide +kernel
theorem dX3_wouldChange_4 : decode cX3_wouldChange 4 = .ok (.getfield 30, 3) := by decide +kernel
theorem dX3_wouldChange_7 : decode cX3_wouldChange 7 = .ok (.getfield 71, 3) := by decide +kernel
theorem dX3_wouldChange_10 : decode cX3_wouldChange 10 = .ok (.if_icmp .ge 58, 3) := by decide +kernel
theorem dX3_wouldChange_13 : decode cX3_wouldChange 13 = .ok (.aload_n 0, 1) := by decide +kernel
theorem dX3_wouldChange_14 : decode cX3_wouldChange 14 = .ok (.getfield 38, 3) := by decide +kernel
theorem dX3_wouldChange_17 : decode cX3_wouldChange 17 = .ok (.iload_n 2, 1) := by decide +kernel
theorem dX3_wouldChange_18 : decode cX3_wouldChange 18 = .ok (.invokevirtual 76, 3) := by decide +kernel
theorem dX3_wouldChange_21 : decode cX3_wouldChange 21 = .ok (.astore_n 3, 1) := by decide +kernel
theorem dX3_wouldChange_22 : decode cX3_wouldChange 22 = .ok (.iconst 0, 1) := by decide +kernel
theorem dX3_wouldChange_23 : decode cX3_wouldChange 23 = .ok (.istore 4, 2) := by decide +kernel
theorem dX3_wouldChange_25 : decode cX3_wouldChange 25 = .ok (.iload 4, 2) := by decide +kernel
theorem dX3_wouldChange_27 : decode cX3_wouldChange 27 = .ok (.aload_n 3, 1) := by decide +kernel
theorem dX3_wouldChange_28 : decode cX3_wouldChange 28 = .ok (.getfield 58, 3) := by decide +kernel
theorem dX3_wouldChange_31 : decode cX3_wouldChange 31 = .ok (.if_icmp .ge 31, 3) := by decide +kernel
theorem dX3_wouldChange_34 : decode cX3_wouldChange 34 = .ok (.aload_n 3, 1) := by decide +kernel
theorem dX3_wouldChange_35 : decode cX3_wouldChange 35 = .ok (.iload 4, 2) := by decide +kernel
theorem dX3_wouldChange_37 : decode cX3_wouldChange 37 = .ok (.iload_n 1, 1) := by decide +kernel
theorem dX3_wouldChange_38 : decode cX3_wouldChange 38 = .ok (.invokevirtual 80, 3) := by decide +kernel
theorem dX3_wouldChange_41 : decode cX3_wouldChange 41 = .ok (.ifCond .ne 15, 3) := by decide +kernel
theorem dX3_wouldChange_44 : decode cX3_wouldChange 44 = .ok (.aload_n 0, 1) := by decide +kernel
theorem dX3_wouldChange_45 : decode cX3_wouldChange 45 = .ok (.aload_n 3, 1) := by decide +kernel
theorem dX3_wouldChange_46 : decode cX3_wouldChange 46 = .ok (.iload 4, 2) := by decide +kernel
theorem dX3_wouldChange_48 : decode cX3_wouldChange 48 = .ok (.invokevirtual 149, 3) := by decide +kernel
theorem dX3_wouldChange_51 : decode cX3_wouldChange 51 = .ok (.ifCond .eq 5, 3) := by decide +kernel
theorem dX3_wouldChange_54 : decode cX3_wouldChange 54 = .ok (.iconst 1, 1) := by decide +kernel
theorem dX3_wouldChange_55 : decode cX3_wouldChange 55 = .ok (.ireturn, 1) := by decide +kernel
theorem dX3_wouldChange_56 : decode cX3_wouldChange 56 = .ok (.iinc 4 1, 3) := by decide +kernel
theorem dX3_wouldChange_59 : decode cX3_wouldChange 59 = .ok (.goto (-34), 3) := by decide +kernel
theorem dX3_wouldChange_62 : decode cX3_wouldChange 62 = .ok (.iinc 2 1, 3) := by decide +kernel
theorem dX3_wouldChange_65 : decode cX3_wouldChange 65 = .ok (.goto (-63), 3) := by decide +kernel
theorem dX3_wouldChange_68 : decode cX3_wouldChange 68 = .ok (.iconst 0, 1) := by decide +kernel
theorem dX3_wouldChange_69 : decode cX3_wouldChange 69 = .ok (.ireturn, 1) := by decide +kernel
theorem dX3_wouldChangeBy_0 : decode cX3_wouldChangeBy 0 = .ok (.aload_n 0, 1) := by decide +kernel
theorem dX3_wouldChangeBy_1 : decode cX3_wouldChangeBy 1 = .ok (.getfield 30, 3) := by decide +kernel
theorem dX3_wouldChangeBy_4 : decode cX3_wouldChangeBy 4 = .ok (.getfield 103, 3) := by decide +kernel
theorem dX3_wouldChangeBy_7 : decode cX3_wouldChangeBy 7 = .ok (.getfield 107, 3) := by decide +kernel
theorem dX3_wouldChangeBy_10 : decode cX3_wouldChangeBy 10 = .ok (.istore_n 3, 1) := by decide +kernel
theorem dX3_wouldChangeBy_11 : decode cX3_wouldChangeBy 11 = .ok (.aload_n 0, 1) := by decide +kernel
theorem dX3_wouldChangeBy_12 : decode cX3_wouldChangeBy 12 = .ok (.aload_n 1, 1) := by decide +kernel
theorem dX3_wouldChangeBy_13 : decode cX3_wouldChangeBy 13 = .ok (.iload_n 2, 1) := by decide +kernel
theorem dX3_wouldChangeBy_14 : decode cX3_wouldChangeBy 14 = .ok (.invokevirtual 114, 3) := by decide +kernel
theorem dX3_wouldChangeBy_17 : decode cX3_wouldChangeBy 17 = .ok (.istore 4, 2) := by decide +kernel
theorem dX3_wouldChangeBy_19 : decode cX3_wouldChangeBy 19 = .ok (.aload_n 0, 1) := by decide +kernel
theorem dX3_wouldChangeBy_20 : decode cX3_wouldChangeBy 20 = .ok (.getfield 30, 3) := by decide +kernel
theorem dX3_wouldChangeBy_23 : decode cX3_wouldChangeBy 23 = .ok (.getfield 103, 3) := by decide +kernel
theorem dX3_wouldChangeBy_26 : decode cX3_wouldChangeBy 26 = .ok (.getfield 107, 3) := by decide +kernel
theorem dX3_wouldChangeBy_29 : decode cX3_wouldChangeBy 29 = .ok (.iload_n 3, 1) := by decide +kernel
theorem dX3_wouldChangeBy_30 : decode cX3_wouldChangeBy 30 = .ok (.if_icmp .le 7, 3) := by decide +kernel
theorem dX3_wouldChangeBy_33 : decode cX3_wouldChangeBy 33 = .ok (.iconst 1, 1) := by decide +kernel
theorem dX3_wouldChangeBy_34 : decode cX3_wouldChangeBy 34 = .ok (.goto 4, 3) := by decide +kernel
theorem dX3_wouldChangeBy_37 : decode cX3_wouldChangeBy 37 = .ok (.iconst 0, 1) := by decide +kernel
theorem dX3_wouldChangeBy_38 : decode cX3_wouldChangeBy 38 = .ok (.istore 5, 2) := by decide +kernel
theorem dX3_wouldChangeBy_40 : decode cX3_wouldChangeBy 40 = .ok (.aload_n 0, 1) := by decide +kernel
theorem dX3_wouldChangeBy_41 : decode cX3_wouldChangeBy 41 = .ok (.getfield 30, 3) := by decide +kernel
theorem dX3_wouldChangeBy_44 : decode cX3_wouldChangeBy 44 = .ok (.getfield 103, 3) := by decide +kernel
theorem dX3_wouldChangeBy_47 : decode cX3_wouldChangeBy 47 = .ok (.iload_n 3, 1) := by decide +kernel
theorem dX3_wouldChangeBy_48 : decode cX3_wouldChangeBy 48 = .ok (.putfield 107, 3) := by decide +kernel
theorem dX3_wouldChangeBy_51 : decode cX3_wouldChangeBy 51 = .ok (.iload 4, 2) := by decide +kernel
theorem dX3_wouldChangeBy_53 : decode cX3_wouldChangeBy 53 = .ok (.iconst (-1), 1) := by decide +kernel
theorem dX3_wouldChangeBy_54 : decode cX3_wouldChangeBy 54 = .ok (.if_icmp .eq 33, 3) := by decide +kernel
theorem dX3_wouldChangeBy_57 : decode cX3_wouldChangeBy 57 = .ok (.iload 5, 2) := by decide +kernel
theorem dX3_wouldChangeBy_59 : decode cX3_wouldChangeBy 59 = .ok (.ifCond .ne 24, 3) := by decide +kernel
theorem dX3_wouldChangeBy_62 : decode cX3_wouldChangeBy 62 = .ok (.aload_n 0, 1) := by decide +kernel
theorem dX3_wouldChangeBy_63 : decode cX3_wouldChangeBy 63 = .ok (.getfield 30, 3) := by decide +kernel
theorem dX3_wouldChangeBy_66 : decode cX3_wouldChangeBy 66 = .ok (.getfield 103, 3) := by decide +kernel
theorem dX3_wouldChangeBy_69 : decode cX3_wouldChangeBy 69 = .ok (.iload 4, 2) := by decide +kernel
theorem dX3_wouldChangeBy_71 : decode cX3_wouldChangeBy 71 = .ok (.invokevirtual 132, 3) := by decide +kernel
theorem dX3_wouldChangeBy_74 : decode cX3_wouldChangeBy 74 = .ok (.aload_n 1, 1) := by decide +kernel
theorem dX3_wouldChangeBy_75 : decode cX3_wouldChangeBy 75 = .ok (.iload_n 2, 1) := by decide +kernel
theorem dX3_wouldChangeBy_76 : decode cX3_wouldChangeBy 76 = .ok (.iconst 3, 1) := by decide +kernel
theorem dX3_wouldChangeBy_77 : decode cX3_wouldChangeBy 77 = .ok (.invokevirtual 92, 3) := by decide +kernel
theorem dX3_wouldChangeBy_80 : decode cX3_wouldChangeBy 80 = .ok (.if_icmp .eq 7, 3) := by decide +kernel
theorem dX3_wouldChangeBy_83 : decode cX3_wouldChangeBy 83 = .ok (.iconst 1, 1) := by decide +kernel
theorem dX3_wouldChangeBy_84 : decode cX3_wouldChangeBy 84 = .ok (.goto 4, 3) := by decide +kernel
theorem dX3_wouldChangeBy_87 : decode cX3_wouldChangeBy 87 = .ok (.iconst 0, 1) := by decide +kernel
theorem dX3_wouldChangeBy_88 : decode cX3_wouldChangeBy 88 = .ok (.ireturn, 1) := by decide +kernel
theorem dX4_init_0 : decode cX4_init 0 = .ok (.aload_n 0, 1) := by decide +kernel
theorem dX4_init_1 : decode cX4_init 1 = .ok (.invokespecial 3, 3) := by decide +kernel
theorem dX4_init_4 : decode cX4_init 4 = .ok (.aload_n 0, 1) := by decide +kernel
theorem dX4_init_5 : decode cX4_init 5 = .ok (.new 9, 3) := by decide +kernel
theorem dX4_init_8 : decode cX4_init 8 = .ok (.dup, 1) := by decide +kernel
theorem dX4_init_9 : decode cX4_init 9 = .ok (.sipush 200, 3) := by decide +kernel
theorem dX4_init_12 : decode cX4_init 12 = .ok (.invokespecial 11, 3) := by decide +kernel
theorem dX4_init_15 : decode cX4_init 15 = .ok (.putfield 14, 3) := by decide +kernel
theorem dX4_init_18 : decode cX4_init 18 = .ok (.aload_n 0, 1) := by decide +kernel
theorem dX4_init_19 : decode cX4_init 19 = .ok (.iconst (-1), 1) := by decide +kernel
theorem dX4_init_20 : decode cX4_init 20 = .ok (.putfield 20, 3) := by decide +kernel
theorem dX4_init_23 : decode cX4_init 23 = .ok (.aload_n 0, 1) := by decide +kernel
theorem dX4_init_24 : decode cX4_init 24 = .ok (.bipush 50, 2) := by decide +kernel
theorem dX4_init_26 : decode cX4_init 26 = .ok (.newarray .int, 2) := by decide +kernel
theorem dX4_init_28 : decode cX4_init 28 = .ok (.putfield 24, 3) := by decide +kernel
theorem dX4_init_31 : decode cX4_init 31 = .ok (.aload_n 0, 1) := by decide +kernel
theorem dX4_init_32 : decode cX4_init 32 = .ok (.bipush 120, 2) := by decide +kernel
theorem dX4_init_34 : decode cX4_init 34 = .ok (.newarray .int, 2) := by decide +kernel
theorem dX4_init_36 : decode cX4_init 36 = .ok (.putfield 28, 3) := by decide +kernel
theorem dX4_init_39 : decode cX4_init 39 = .ok (.aload_n 0, 1) := by decide +kernel
theorem dX4_init_40 : decode cX4_init 40 = .ok (.iconst 3, 1) := by decide +kernel
theorem dX4_init_41 : decode cX4_init 41 = .ok (.newarray .int, 2) := by decide +kernel
theorem dX4_init_43 : decode cX4_init 43 = .ok (.putfield 31, 3) := by decide +kernel
theorem dX4_init_46 : decode cX4_init 46 = .ok (.aload_n 0, 1) := by decide +kernel
theorem dX4_init_47 : decode cX4_init 47 = .ok (.aload_n 1, 1) := by decide +kernel
theorem dX4_init_48 : decode cX4_init 48 = .ok (.putfield 34, 3) := by decide +kernel
theorem dX4_init_51 : decode cX4_init 51 = .ok (.aload_n 0, 1) := by decide +kernel
theorem dX4_init_52 : decode cX4_init 52 = .ok (.aload_n 2, 1) := by decide +kernel
theorem dX4_init_53 : decode cX4_init 53 = .ok (.putfield 38, 3) := by decide +kernel
theorem dX4_init_56 : decode cX4_init 56 = .ok (.return_, 1) := by decide +kernel
theorem dX4_forget_0 : decode cX4_forget 0 = .ok (.aload_n 0, 1) := by decide +kernel
theorem dX4_forget_1 : decode cX4_forget 1 = .ok (.iconst (-1), 1) := by decide +kernel
theorem dX4_forget_2 : decode cX4_forget 2 = .ok (.putfield 20, 3) := by decide +kernel
theorem dX4_forget_5 : decode cX4_forget 5 = .ok (.return_, 1) := by decide +kernel
theorem dX4_look_0 : decode cX4_look 0 = .ok (.iload_n 1, 1) := by decide +kernel
theorem dX4_look_1 : decode cX4_look 1 = .ok (.aload_n 0, 1) := by decide +kernel
theorem dX4_look_2 : decode cX4_look 2 = .ok (.getfield 20, 3) := by decide +kernel
theorem dX4_look_5 : decode cX4_look 5 = .ok (.if_icmp .ne 8, 3) := by decide +kernel
theorem dX4_look_8 : decode cX4_look 8 = .ok (.aload_n 0, 1) := by decide +kernel
theorem dX4_look_9 : decode cX4_look 9 = .ok (.getfield 14, 3) := by decide +kernel
theorem dX4_look_12 : decode cX4_look 12 = .ok (.areturn, 1) := by decide +kernel
theorem dX4_look_13 : decode cX4_look 13 = .ok (.aload_n 0, 1) := by decide +kernel
theorem dX4_look_14 : decode cX4_look 14 = .ok (.getfield 14, 3) := by decide +kernel
theorem dX4_look_17 : decode cX4_look 17 = .ok (.iconst 0, 1) := by decide +kernel
theorem dX4_look_18 : decode cX4_look 18 = .ok (.putfield 42, 3) := by decide +kernel
theorem dX4_look_21 : decode cX4_look 21 = .ok (.aload_n 0, 1) := by decide +kernel
theorem dX4_look_22 : decode cX4_look 22 = .ok (.iload_n 1, 1) := by decide +kernel
theorem dX4_look_23 : decode cX4_look 23 = .ok (.putfield 20, 3) := by decide +kernel
theorem dX4_look_26 : decode cX4_look 26 = .ok (.aload_n 0, 1) := by decide +kernel
theorem dX4_look_27 : decode cX4_look 27 = .ok (.invokevirtual 45, 3) := by decide +kernel
theorem dX4_look_30 : decode cX4_look 30 = .ok (.aload_n 0, 1) := by decide +kernel
theorem dX4_look_31 : decode cX4_look 31 = .ok (.getfield 38, 3) := by decide +kernel
theorem dX4_look_34 : decode cX4_look 34 = .ok (.aload_n 0, 1) := by decide +kernel
theorem dX4_look_35 : decode cX4_look 35 = .ok (.getfield 34, 3) := by decide +kernel
theorem dX4_look_38 : decode cX4_look 38 = .ok (.getfield 48, 3) := by decide +kernel
theorem dX4_look_41 : decode cX4_look 41 = .ok (.invokevirtual 54, 3) := by decide +kernel
theorem dX4_look_44 : decode cX4_look 44 = .ok (.aload_n 0, 1) := by decide +kernel
theorem dX4_look_45 : decode cX4_look 45 = .ok (.getfield 34, 3) := by decide +kernel
theorem dX4_look_48 : decode cX4_look 48 = .ok (.iload_n 1, 1) := by decide +kernel
theorem dX4_look_49 : decode cX4_look 49 = .ok (.invokevirtual 60, 3) := by decide +kernel
theorem dX4_look_52 : decode cX4_look 52 = .ok (.astore_n 2, 1) := by decide +kernel
theorem dX4_look_53 : decode cX4_look 53 = .ok (.aload_n 0, 1) := by decide +kernel
theorem dX4_look_54 : decode cX4_look 54 = .ok (.aload_n 2, 1) := by decide +kernel
theorem dX4_look_55 : decode cX4_look 55 = .ok (.iconst 0, 1) := by decide +kernel
theorem dX4_look_56 : decode cX4_look 56 = .ok (.invokevirtual 64, 3) := by decide +kernel
theorem dX4_look_59 : decode cX4_look 59 = .ok (.ifCond .eq 18, 3) := by decide +kernel
theorem dX4_look_62 : decode cX4_look 62 = .ok (.aload_n 0, 1) := by decide +kernel
theorem dX4_look_63 : decode cX4_look 63 = .ok (.aload_n 2, 1) := by decide +kernel
theorem dX4_look_64 : decode cX4_look 64 = .ok (.aload_n 2, 1) := by decide +kernel
theorem dX4_look_65 : decode cX4_look 65 = .ok (.iconst 0, 1) := by decide +kernel
theorem dX4_look_66 : decode cX4_look 66 = .ok (.aload_n 2, 1) := by decide +kernel
theorem dX4_look_67 : decode cX4_look 67 = .ok (.getfield 68, 3) := by decide +kernel
theorem dX4_look_70 : decode cX4_look 70 = .ok (.invokevirtual 73, 3) := by decide +kernel
theorem dX4_look_73 : decode cX4_look 73 = .ok (.iconst 0, 1) := by decide +kernel
theorem dX4_look_74 : decode cX4_look 74 = .ok (.invokevirtual 77, 3) := by decide +kernel
theorem dX4_look_77 : decode cX4_look 77 = .ok (.aload_n 0, 1) := by decide +kernel
theorem dX4_look_78 : decode cX4_look 78 = .ok (.getfield 14, 3) := by decide +kernel
theorem dX4_look_81 : decode cX4_look 81 = .ok (.areturn, 1) := by decide +kernel
theorem dX4_markGenerations_0 : decode cX4_markGenerations 0 = .ok (.aload_n 0, 1) := by decide +kernel
theorem dX4_markGenerations_1 : decode cX4_markGenerations 1 = .ok (.getfield 24, 3) := by decide +kernel
theorem dX4_markGenerations_4 : decode cX4_markGenerations 4 = .ok (.bipush 9, 2) := by decide +kernel
theorem dX4_markGenerations_6 : decode cX4_markGenerations 6 = .ok (.invokestatic 81, 3) := by decide +kernel
theorem dX4_markGenerations_9 : decode cX4_markGenerations 9 = .ok (.aload_n 0, 1) := by decide +kernel
theorem dX4_markGenerations_10 : decode cX4_markGenerations 10 = .ok (.getfield 34, 3) := by decide +kernel
theorem dX4_markGenerations_13 : decode cX4_markGenerations 13 = .ok (.getfield 48, 3) := by decide +kernel
theorem dX4_markGenerations_16 : decode cX4_markGenerations 16 = .ok (.astore_n 1, 1) := by decide +kernel
theorem dX4_markGenerations_17 : decode cX4_markGenerations 17 = .ok (.iconst 0, 1) := by decide +kernel
theorem dX4_markGenerations_18 : decode cX4_markGenerations 18 = .ok (.istore_n 2, 1) := by decide +kernel
theorem dX4_markGenerations_19 : decode cX4_markGenerations 19 = .ok (.iload_n 2, 1) := by decide +kernel
theorem dX4_markGenerations_20 : decode cX4_markGenerations 20 = .ok (.aload_n 1, 1) := by decide +kernel
theorem dX4_markGenerations_21 : decode cX4_markGenerations 21 = .ok (.getfield 87, 3) := by decide +kernel
theorem dX4_markGenerations_24 : decode cX4_markGenerations 24 = .ok (.if_icmp .ge 47, 3) := by decide +kernel
theorem dX4_markGenerations_27 : decode cX4_markGenerations 27 = .ok (.aload_n 1, 1) := by decide +kernel
theorem dX4_markGenerations_28 : decode cX4_markGenerations 28 = .ok (.getfield 90, 3) := by decide +kernel
theorem dX4_markGenerations_31 : decode cX4_markGenerations 31 = .ok (.iload_n 2, 1) := by decide +kernel
theorem dX4_markGenerations_32 : decode cX4_markGenerations 32 = .ok (.iaload, 1) := by decide +kernel
theorem dX4_markGenerations_33 : decode cX4_markGenerations 33 = .ok (.istore_n 3, 1) := by decide +kernel
theorem dX4_markGenerations_34 : decode cX4_markGenerations 34 = .ok (.iload_n 3, 1) := by decide +kernel
theorem dX4_markGenerations_35 : decode cX4_markGenerations 35 = .ok (.ifCond .lt 30, 3) := by decide +kernel
theorem dX4_markGenerations_38 : decode cX4_markGenerations 38 = .ok (.iload_n 3, 1) := by decide +kernel
theorem dX4_markGenerations_39 : decode cX4_markGenerations 39 = .ok (.bipush 50, 2) := by decide +kernel
theorem dX4_markGenerations_41 : decode cX4_markGenerations 41 = .ok (.if_icmp .ge 24, 3) := by decide +kernel
theorem dX4_markGenerations_44 : decode cX4_markGenerations 44 = .ok (.aload_n 0, 1) := by decide +kernel
theorem dX4_markGenerations_45 : decode cX4_markGenerations 45 = .ok (.getfield 24, 3) := by decide +kernel
theorem dX4_markGenerations_48 : decode cX4_markGenerations 48 = .ok (.iload_n 3, 1) := by decide +kernel
theorem dX4_markGenerations_49 : decode cX4_markGenerations 49 = .ok (.aload_n 0, 1) := by decide +kernel
theorem dX4_markGenerations_50 : decode cX4_markGenerations 50 = .ok (.getfield 24, 3) := by decide +kernel
theorem dX4_markGenerations_53 : decode cX4_markGenerations 53 = .ok (.iload_n 3, 1) := by decide +kernel
theorem dX4_markGenerations_54 : decode cX4_markGenerations 54 = .ok (.iaload, 1) := by decide +kernel
theorem dX4_markGenerations_55 : decode cX4_markGenerations 55 = .ok (.aload_n 1, 1) := by decide +kernel
theorem dX4_markGenerations_56 : decode cX4_markGenerations 56 = .ok (.getfield 93, 3) := by decide +kernel
theorem dX4_markGenerations_59 : decode cX4_markGenerations 59 = .ok (.iload_n 2, 1) := by decide +kernel
theorem dX4_markGenerations_60 : decode cX4_markGenerations 60 = .ok (.iaload, 1) := by decide +kernel
theorem dX4_markGenerations_61 : decode cX4_markGenerations 61 = .ok (.invokestatic 96, 3) := by decide +kernel
theorem dX4_markGenerations_64 : decode cX4_markGenerations 64 = .ok (.iastore, 1) := by decide +kernel
theorem dX4_markGenerations_65 : decode cX4_markGenerations 65 = .ok (.iinc 2 1, 3) := by decide +kernel
theorem dX4_markGenerations_68 : decode cX4_markGenerations 68 = .ok (.goto (-49), 3) := by decide +kernel
theorem dX4_markGenerations_71 : decode cX4_markGenerations 71 = .ok (.return_, 1) := by decide +kernel
theorem dX4_choose_0 : decode cX4_choose 0 = .ok (.iload_n 3, 1) := by decide +kernel
theorem dX4_choose_1 : decode cX4_choose 1 = .ok (.iconst 3, 1) := by decide +kernel
theorem dX4_choose_2 : decode cX4_choose 2 = .ok (.if_icmp .lt 9, 3) := by decide +kernel
theorem dX4_choose_5 : decode cX4_choose 5 = .ok (.aload_n 0, 1) := by decide +kernel
theorem dX4_choose_6 : decode cX4_choose 6 = .ok (.aload_n 1, 1) := by decide +kernel
theorem dX4_choose_7 : decode cX4_choose 7 = .ok (.invokevirtual 101, 3) := by decide +kernel
theorem dX4_choose_10 : decode cX4_choose 10 = .ok (.return_, 1) := by decide +kernel
theorem dX4_choose_11 : decode cX4_choose 11 = .ok (.iload_n 2, 1) := by decide +kernel
theorem dX4_choose_12 : decode cX4_choose 12 = .ok (.iload_n 3, 1) := by decide +kernel
theorem dX4_choose_13 : decode cX4_choose 13 = .ok (.ishr, 1) := by decide +kernel
theorem dX4_choose_14 : decode cX4_choose 14 = .ok (.iconst 1, 1) := by decide +kernel
theorem dX4_choose_15 : decode cX4_choose 15 = .ok (.iand, 1) := by decide +kernel
theorem dX4_choose_16 : decode cX4_choose 16 = .ok (.ifCond .ne 20, 3) := by decide +kernel
theorem dX4_choose_19 : decode cX4_choose 19 = .ok (.aload_n 0, 1) := by decide +kernel
theorem dX4_choose_20 : decode cX4_choose 20 = .ok (.getfield 31, 3) := by decide +kernel
theorem dX4_choose_23 : decode cX4_choose 23 = .ok (.iload_n 3, 1) := by decide +kernel
theorem dX4_choose_24 : decode cX4_choose 24 = .ok (.iconst (-1), 1) := by decide +kernel
theorem dX4_choose_25 : decode cX4_choose 25 = .ok (.iastore, 1) := by decide +kernel
theorem dX4_choose_26 : decode cX4_choose 26 = .ok (.aload_n 0, 1) := by decide +kernel
theorem dX4_choose_27 : decode cX4_choose 27 = .ok (.aload_n 1, 1) := by decide +kernel
theorem dX4_choose_28 : decode cX4_choose 28 = .ok (.iload_n 2, 1) := by decide +kernel
theorem dX4_choose_29 : decode cX4_choose 29 = .ok (.iload_n 3, 1) := by decide +kernel
theorem dX4_choose_30 : decode cX4_choose 30 = .ok (.iconst 1, 1) := by decide +kernel
theorem dX4_choose_31 : decode cX4_choose 31 = .ok (.iadd, 1) := by decide +kernel
theorem dX4_choose_32 : decode cX4_choose 32 = .ok (.invokevirtual 77, 3) := by decide +kernel
theorem dX4_choose_35 : decode cX4_choose 35 = .ok (.return_, 1) := by decide +kernel
theorem dX4_choose_36 : decode cX4_choose 36 = .ok (.aload_n 0, 1) := by decide +kernel
theorem dX4_choose_37 : decode cX4_choose 37 = .ok (.aload_n 1, 1) := by decide +kernel
theorem dX4_choose_38 : decode cX4_choose 38 = .ok (.iload_n 3, 1) := by decide +kernel
theorem dX4_choose_39 : decode cX4_choose 39 = .ok (.invokevirtual 105, 3) := by decide +kernel
theorem dX4_choose_42 : decode cX4_choose 42 = .ok (.lstore 4, 2) := by decide +kernel
theorem dX4_choose_44 : decode cX4_choose 44 = .ok (.iconst 0, 1) := by decide +kernel
theorem dX4_choose_45 : decode cX4_choose 45 = .ok (.istore 6, 2) := by decide +kernel
theorem dX4_choose_47 : decode cX4_choose 47 = .ok (.iload 6, 2) := by decide +kernel
theorem dX4_choose_49 : decode cX4_choose 49 = .ok (.aload_n 0, 1) := by decide +kernel
theorem dX4_choose_50 : decode cX4_choose 50 = .ok (.getfield 34, 3) := by decide +kernel
theorem dX4_choose_53 : decode cX4_choose 53 = .ok (.getfield 48, 3) := by decide +kernel
theorem dX4_choose_56 : decode cX4_choose 56 = .ok (.getfield 87, 3) := by decide +kernel
theorem dX4_choose_59 : decode cX4_choose 59 = .ok (.if_icmp .ge 62, 3) := by decide +kernel
theorem dX4_choose_62 : decode cX4_choose 62 = .ok (.aload_n 0, 1) := by decide +kernel
theorem dX4_choose_63 : decode cX4_choose 63 = .ok (.getfield 14, 3) := by decide +kernel
theorem dX4_choose_66 : decode cX4_choose 66 = .ok (.invokevirtual 109, 3) := by decide +kernel
theorem dX4_choose_69 : decode cX4_choose 69 = .ok (.ifCond .ne 52, 3) := by decide +kernel
theorem dX4_choose_72 : decode cX4_choose 72 = .ok (.lload 4, 2) := by decide +kernel
theorem dX4_choose_74 : decode cX4_choose 74 = .ok (.iload 6, 2) := by decide +kernel
theorem dX4_choose_76 : decode cX4_choose 76 = .ok (.lushr, 1) := by decide +kernel
theorem dX4_choose_77 : decode cX4_choose 77 = .ok (.lconst 1, 1) := by decide +kernel
theorem dX4_choose_78 : decode cX4_choose 78 = .ok (.land, 1) := by decide +kernel
theorem dX4_choose_79 : decode cX4_choose 79 = .ok (.lconst 0, 1) := by decide +kernel
theorem dX4_choose_80 : decode cX4_choose 80 = .ok (.lcmp, 1) := by decide +kernel
theorem dX4_choose_81 : decode cX4_choose 81 = .ok (.ifCond .ne 6, 3) := by decide +kernel
theorem dX4_choose_84 : decode cX4_choose 84 = .ok (.goto 31, 3) := by decide +kernel
theorem dX4_choose_87 : decode cX4_choose 87 = .ok (.aload_n 0, 1) := by decide +kernel
theorem dX4_choose_88 : decode cX4_choose 88 = .ok (.getfield 31, 3) := by decide +kernel
theorem dX4_choose_91 : decode cX4_choose 91 = .ok (.iload_n 3, 1) := by decide +kernel
theorem dX4_choose_92 : decode cX4_choose 92 = .ok (.iload 6, 2) := by decide +kernel
theorem dX4_choose_94 : decode cX4_choose 94 = .ok (.iastore, 1) := by decide +kernel
theorem dX4_choose_95 : decode cX4_choose 95 = .ok (.aload_n 0, 1) := by decide +kernel
theorem dX4_choose_96 : decode cX4_choose 96 = .ok (.aload_n 1, 1) := by decide +kernel
theorem dX4_choose_97 : decode cX4_choose 97 = .ok (.iload_n 3, 1) := by decide +kernel
theorem dX4_choose_98 : decode cX4_choose 98 = .ok (.iconst 1, 1) := by decide +kernel
theorem dX4_choose_99 : decode cX4_choose 99 = .ok (.iadd, 1) := by decide +kernel
theorem dX4_choose_100 : decode cX4_choose 100 = .ok (.invokevirtual 64, 3) := by decide +kernel
theorem dX4_choose_103 : decode cX4_choose 103 = .ok (.ifCond .eq 12, 3) := by decide +kernel
theorem dX4_choose_106 : decode cX4_choose 106 = .ok (.aload_n 0, 1) := by decide +kernel
theorem dX4_choose_107 : decode cX4_choose 107 = .ok (.aload_n 1, 1) := by decide +kernel
theorem dX4_choose_108 : decode cX4_choose 108 = .ok (.iload_n 2, 1) := by decide +kernel
theorem dX4_choose_109 : decode cX4_choose 109 = .ok (.iload_n 3, 1) := by decide +kernel
theorem dX4_choose_110 : decode cX4_choose 110 = .ok (.iconst 1, 1) := by decide +kernel
theorem dX4_choose_111 : decode cX4_choose 111 = .ok (.iadd, 1) := by decide +kernel
theorem dX4_choose_112 : decode cX4_choose 112 = .ok (.invokevirtual 77, 3) := by decide +kernel
theorem dX4_choose_115 : decode cX4_choose 115 = .ok (.iinc 6 1, 3) := by decide +kernel
theorem dX4_choose_118 : decode cX4_choose 118 = .ok (.goto (-71), 3) := by decide +kernel
theorem dX4_choose_121 : decode cX4_choose 121 = .ok (.return_, 1) := by decide +kernel
theorem dX4_fitting_0 : decode cX4_fitting 0 = .ok (.ldc2_w 113, 3) := by decide +kernel
theorem dX4_fitting_3 : decode cX4_fitting 3 = .ok (.lstore_n 3, 1) := by decide +kernel
theorem dX4_fitting_4 : decode cX4_fitting 4 = .ok (.iconst 0, 1) := by decide +kernel
theorem dX4_fitting_5 : decode cX4_fitting 5 = .ok (.istore 5, 2) := by decide +kernel
theorem dX4_fitting_7 : decode cX4_fitting 7 = .ok (.iload 5, 2) := by decide +kernel
theorem dX4_fitting_9 : decode cX4_fitting 9 = .ok (.aload_n 1, 1) := by decide +kernel
theorem dX4_fitting_10 : decode cX4_fitting 10 = .ok (.getfield 68, 3) := by decide +kernel
theorem dX4_fitting_13 : decode cX4_fitting 13 = .ok (.if_icmp .ge 92, 3) := by decide +kernel
theorem dX4_fitting_16 : decode cX4_fitting 16 = .ok (.aload_n 1, 1) := by decide +kernel
theorem dX4_fitting_17 : decode cX4_fitting 17 = .ok (.aload_n 1, 1) := by decide +kernel
theorem dX4_fitting_18 : decode cX4_fitting 18 = .ok (.getfield 115, 3) := by decide +kernel
theorem dX4_fitting_21 : decode cX4_fitting 21 = .ok (.iload 5, 2) := by decide +kernel
theorem dX4_fitting_23 : decode cX4_fitting 23 = .ok (.iaload, 1) := by decide +kernel
theorem dX4_fitting_24 : decode cX4_fitting 24 = .ok (.iload_n 2, 1) := by decide +kernel
theorem dX4_fitting_25 : decode cX4_fitting 25 = .ok (.invokevirtual 118, 3) := by decide +kernel
theorem dX4_fitting_28 : decode cX4_fitting 28 = .ok (.ifCond .eq 33, 3) := by decide +kernel
theorem dX4_fitting_31 : decode cX4_fitting 31 = .ok (.lload_n 3, 1) := by decide +kernel
theorem dX4_fitting_32 : decode cX4_fitting 32 = .ok (.aload_n 0, 1) := by decide +kernel
theorem dX4_fitting_33 : decode cX4_fitting 33 = .ok (.getfield 38, 3) := by decide +kernel
theorem dX4_fitting_36 : decode cX4_fitting 36 = .ok (.aload_n 1, 1) := by decide +kernel
theorem dX4_fitting_37 : decode cX4_fitting 37 = .ok (.getfield 122, 3) := by decide +kernel
theorem dX4_fitting_40 : decode cX4_fitting 40 = .ok (.iload 5, 2) := by decide +kernel
theorem dX4_fitting_42 : decode cX4_fitting 42 = .ok (.iaload, 1) := by decide +kernel
theorem dX4_fitting_43 : decode cX4_fitting 43 = .ok (.aload_n 0, 1) := by decide +kernel
theorem dX4_fitting_44 : decode cX4_fitting 44 = .ok (.aload_n 1, 1) := by decide +kernel
theorem dX4_fitting_45 : decode cX4_fitting 45 = .ok (.aload_n 1, 1) := by decide +kernel
theorem dX4_fitting_46 : decode cX4_fitting 46 = .ok (.getfield 125, 3) := by decide +kernel
theorem dX4_fitting_49 : decode cX4_fitting 49 = .ok (.iload 5, 2) := by decide +kernel
theorem dX4_fitting_51 : decode cX4_fitting 51 = .ok (.iaload, 1) := by decide +kernel
theorem dX4_fitting_52 : decode cX4_fitting 52 = .ok (.iload_n 2, 1) := by decide +kernel
theorem dX4_fitting_53 : decode cX4_fitting 53 = .ok (.invokevirtual 128, 3) := by decide +kernel
theorem dX4_fitting_56 : decode cX4_fitting 56 = .ok (.invokevirtual 132, 3) := by decide +kernel
theorem dX4_fitting_59 : decode cX4_fitting 59 = .ok (.land, 1) := by decide +kernel
theorem dX4_fitting_60 : decode cX4_fitting 60 = .ok (.lstore_n 3, 1) := by decide +kernel
theorem dX4_fitting_61 : decode cX4_fitting 61 = .ok (.aload_n 1, 1) := by decide +kernel
theorem dX4_fitting_62 : decode cX4_fitting 62 = .ok (.aload_n 1, 1) := by decide +kernel
theorem dX4_fitting_63 : decode cX4_fitting 63 = .ok (.getfield 125, 3) := by decide +kernel
theorem dX4_fitting_66 : decode cX4_fitting 66 = .ok (.iload 5, 2) := by decide +kernel
theorem dX4_fitting_68 : decode cX4_fitting 68 = .ok (.iaload, 1) := by decide +kernel
theorem dX4_fitting_69 : decode cX4_fitting 69 = .ok (.iload_n 2, 1) := by decide +kernel
theorem dX4_fitting_70 : decode cX4_fitting 70 = .ok (.invokevirtual 118, 3) := by decide +kernel
theorem dX4_fitting_73 : decode cX4_fitting 73 = .ok (.ifCond .eq 26, 3) := by decide +kernel
theorem dX4_fitting_76 : decode cX4_fitting 76 = .ok (.lload_n 3, 1) := by decide +kernel
theorem dX4_fitting_77 : decode cX4_fitting 77 = .ok (.aload_n 0, 1) := by decide +kernel
theorem dX4_fitting_78 : decode cX4_fitting 78 = .ok (.getfield 38, 3) := by decide +kernel
theorem dX4_fitting_81 : decode cX4_fitting 81 = .ok (.aload_n 0, 1) := by decide +kernel
theorem dX4_fitting_82 : decode cX4_fitting 82 = .ok (.aload_n 1, 1) := by decide +kernel
theorem dX4_fitting_83 : decode cX4_fitting 83 = .ok (.aload_n 1, 1) := by decide +kernel
theorem dX4_fitting_84 : decode cX4_fitting 84 = .ok (.getfield 115, 3) := by decide +kernel
theorem dX4_fitting_87 : decode cX4_fitting 87 = .ok (.iload 5, 2) := by decide +kernel
theorem dX4_fitting_89 : decode cX4_fitting 89 = .ok (.iaload, 1) := by decide +kernel
theorem dX4_fitting_90 : decode cX4_fitting 90 = .ok (.iload_n 2, 1) := by decide +kernel
theorem dX4_fitting_91 : decode cX4_fitting 91 = .ok (.invokevirtual 128, 3) := by decide +kernel
theorem dX4_fitting_94 : decode cX4_fitting 94 = .ok (.invokevirtual 136, 3) := by decide +kernel
theorem dX4_fitting_97 : decode cX4_fitting 97 = .ok (.land, 1) := by decide +kernel
theorem dX4_fitting_98 : decode cX4_fitting 98 = .ok (.lstore_n 3, 1) := by decide +kernel
theorem dX4_fitting_99 : decode cX4_fitting 99 = .ok (.iinc 5 1, 3) := by decide +kernel
theorem dX4_fitting_102 : decode cX4_fitting 102 = .ok (.goto (-95), 3) := by decide +kernel
theorem dX4_fitting_105 : decode cX4_fitting 105 = .ok (.lload_n 3, 1) := by decide +kernel
theorem dX4_fitting_106 : decode cX4_fitting 106 = .ok (.lreturn, 1) := by decide +kernel
theorem dX4_knownValue_0 : decode cX4_knownValue 0 = .ok (.aload_n 1, 1) := by decide +kernel
theorem dX4_knownValue_1 : decode cX4_knownValue 1 = .ok (.iload_n 2, 1) := by decide +kernel
theorem dX4_knownValue_2 : decode cX4_knownValue 2 = .ok (.invokevirtual 140, 3) := by decide +kernel
theorem dX4_knownValue_5 : decode cX4_knownValue 5 = .ok (.iload_n 3, 1) := by decide +kernel
theorem dX4_knownValue_6 : decode cX4_knownValue 6 = .ok (.if_icmp .gt 11, 3) := by decide +kernel
theorem dX4_knownValue_9 : decode cX4_knownValue 9 = .ok (.aload_n 0, 1) := by decide +kernel
theorem dX4_knownValue_10 : decode cX4_knownValue 10 = .ok (.iload_n 2, 1) := by decide +kernel
theorem dX4_knownValue_11 : decode cX4_knownValue 11 = .ok (.invokevirtual 144, 3) := by decide +kernel
theorem dX4_knownValue_14 : decode cX4_knownValue 14 = .ok (.goto 4, 3) := by decide +kernel
theorem dX4_knownValue_17 : decode cX4_knownValue 17 = .ok (.iconst (-1), 1) := by decide +kernel
theorem dX4_knownValue_18 : decode cX4_knownValue 18 = .ok (.ireturn, 1) := by decide +kernel
theorem dX4_valueOf_0 : decode cX4_valueOf 0 = .ok (.iload_n 1, 1) := by decide +kernel
theorem dX4_valueOf_1 : decode cX4_valueOf 1 = .ok (.ifCond .lt 18, 3) := by decide +kernel
theorem dX4_valueOf_4 : decode cX4_valueOf 4 = .ok (.iload_n 1, 1) := by decide +kernel
theorem dX4_valueOf_5 : decode cX4_valueOf 5 = .ok (.bipush 120, 2) := by decide +kernel
theorem dX4_valueOf_7 : decode cX4_valueOf 7 = .ok (.if_icmp .ge 12, 3) := by decide +kernel
theorem dX4_valueOf_10 : decode cX4_valueOf 10 = .ok (.aload_n 0, 1) := by decide +kernel
theorem dX4_valueOf_11 : decode cX4_valueOf 11 = .ok (.getfield 28, 3) := by decide +kernel
theorem dX4_valueOf_14 : decode cX4_valueOf 14 = .ok (.iload_n 1, 1) := by decide +kernel
theorem dX4_valueOf_15 : decode cX4_valueOf 15 = .ok (.iaload, 1) := by decide +kernel
theorem dX4_valueOf_16 : decode cX4_valueOf 16 = .ok (.goto 4, 3) := by decide +kernel
theorem dX4_valueOf_19 : decode cX4_valueOf 19 = .ok (.iconst (-1), 1) := by decide +kernel
theorem dX4_valueOf_20 : decode cX4_valueOf 20 = .ok (.ireturn, 1) := by decide +kernel
theorem dX4_stands_0 : decode cX4_stands 0 = .ok (.iconst 0, 1) := by decide +kernel
theorem dX4_stands_1 : decode cX4_stands 1 = .ok (.istore_n 3, 1) := by decide +kernel
theorem dX4_stands_2 : decode cX4_stands 2 = .ok (.iload_n 3, 1) := by decide +kernel
theorem dX4_stands_3 : decode cX4_stands 3 = .ok (.aload_n 1, 1) := by decide +kernel
theorem dX4_stands_4 : decode cX4_stands 4 = .ok (.getfield 68, 3) := by decide +kernel
theorem dX4_stands_7 : decode cX4_stands 7 = .ok (.if_icmp .ge 129, 3) := by decide +kernel
theorem dX4_stands_10 : decode cX4_stands 10 = .ok (.iload_n 3, 1) := by decide +kernel
theorem dX4_stands_11 : decode cX4_stands 11 = .ok (.bipush 120, 2) := by decide +kernel
theorem dX4_stands_13 : decode cX4_stands 13 = .ok (.if_icmp .ge 123, 3) := by decide +kernel
theorem dX4_stands_16 : decode cX4_stands 16 = .ok (.aload_n 1, 1) := by decide +kernel
theorem dX4_stands_17 : decode cX4_stands 17 = .ok (.getfield 147, 3) := by decide +kernel
theorem dX4_stands_20 : decode cX4_stands 20 = .ok (.iload_n 3, 1) := by decide +kernel
theorem dX4_stands_21 : decode cX4_stands 21 = .ok (.iaload, 1) := by decide +kernel
theorem dX4_stands_22 : decode cX4_stands 22 = .ok (.iload_n 2, 1) := by decide +kernel
theorem dX4_stands_23 : decode cX4_stands 23 = .ok (.if_icmp .eq 6, 3) := by decide +kernel
theorem dX4_stands_26 : decode cX4_stands 26 = .ok (.goto 104, 3) := by decide +kernel
theorem dX4_stands_29 : decode cX4_stands 29 = .ok (.aload_n 1, 1) := by decide +kernel
theorem dX4_stands_30 : decode cX4_stands 30 = .ok (.getfield 122, 3) := by decide +kernel
theorem dX4_stands_33 : decode cX4_stands 33 = .ok (.iload_n 3, 1) := by decide +kernel
theorem dX4_stands_34 : decode cX4_stands 34 = .ok (.iaload, 1) := by decide +kernel
theorem dX4_stands_35 : decode cX4_stands 35 = .ok (.bipush 7, 2) := by decide +kernel
theorem dX4_stands_37 : decode cX4_stands 37 = .ok (.if_icmp .lt 25, 3) := by decide +kernel
theorem dX4_stands_40 : decode cX4_stands 40 = .ok (.aload_n 0, 1) := by decide +kernel
theorem dX4_stands_41 : decode cX4_stands 41 = .ok (.getfield 28, 3) := by decide +kernel
theorem dX4_stands_44 : decode cX4_stands 44 = .ok (.iload_n 3, 1) := by decide +kernel
theorem dX4_stands_45 : decode cX4_stands 45 = .ok (.aload_n 0, 1) := by decide +kernel
theorem dX4_stands_46 : decode cX4_stands 46 = .ok (.aload_n 1, 1) := by decide +kernel
theorem dX4_stands_47 : decode cX4_stands 47 = .ok (.getfield 122, 3) := by decide +kernel
theorem dX4_stands_50 : decode cX4_stands 50 = .ok (.iload_n 3, 1) := by decide +kernel
theorem dX4_stands_51 : decode cX4_stands 51 = .ok (.iaload, 1) := by decide +kernel
theorem dX4_stands_52 : decode cX4_stands 52 = .ok (.bipush 7, 2) := by decide +kernel
theorem dX4_stands_54 : decode cX4_stands 54 = .ok (.isub, 1) := by decide +kernel
theorem dX4_stands_55 : decode cX4_stands 55 = .ok (.invokevirtual 150, 3) := by decide +kernel
theorem dX4_stands_58 : decode cX4_stands 58 = .ok (.iastore, 1) := by decide +kernel
theorem dX4_stands_59 : decode cX4_stands 59 = .ok (.goto 59, 3) := by decide +kernel
theorem dX4_stands_62 : decode cX4_stands 62 = .ok (.aload_n 1, 1) := by decide +kernel
theorem dX4_stands_63 : decode cX4_stands 63 = .ok (.getfield 122, 3) := by decide +kernel
theorem dX4_stands_66 : decode cX4_stands 66 = .ok (.iload_n 3, 1) := by decide +kernel
theorem dX4_stands_67 : decode cX4_stands 67 = .ok (.iaload, 1) := by decide +kernel
theorem dX4_stands_68 : decode cX4_stands 68 = .ok (.aload_n 0, 1) := by decide +kernel
theorem dX4_stands_69 : decode cX4_stands 69 = .ok (.aload_n 1, 1) := by decide +kernel
theorem dX4_stands_70 : decode cX4_stands 70 = .ok (.getfield 115, 3) := by decide +kernel
theorem dX4_stands_73 : decode cX4_stands 73 = .ok (.iload_n 3, 1) := by decide +kernel
theorem dX4_stands_74 : decode cX4_stands 74 = .ok (.iaload, 1) := by decide +kernel
theorem dX4_stands_75 : decode cX4_stands 75 = .ok (.invokevirtual 144, 3) := by decide +kernel
theorem dX4_stands_78 : decode cX4_stands 78 = .ok (.aload_n 0, 1) := by decide +kernel
theorem dX4_stands_79 : decode cX4_stands 79 = .ok (.aload_n 1, 1) := by decide +kernel
theorem dX4_stands_80 : decode cX4_stands 80 = .ok (.getfield 125, 3) := by decide +kernel
theorem dX4_stands_83 : decode cX4_stands 83 = .ok (.iload_n 3, 1) := by decide +kernel
theorem dX4_stands_84 : decode cX4_stands 84 = .ok (.iaload, 1) := by decide +kernel
theorem dX4_stands_85 : decode cX4_stands 85 = .ok (.invokevirtual 144, 3) := by decide +kernel
