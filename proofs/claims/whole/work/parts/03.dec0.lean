theorem dX0_init_0 : decode cX0_init 0 = .ok (.aload_n 0, 1) := by decide +kernel
theorem dX0_init_1 : decode cX0_init 1 = .ok (.invokespecial 3, 3) := by decide +kernel
theorem dX0_init_4 : decode cX0_init 4 = .ok (.aload_n 0, 1) := by decide +kernel
theorem dX0_init_5 : decode cX0_init 5 = .ok (.bipush 40, 2) := by decide +kernel
theorem dX0_init_7 : decode cX0_init 7 = .ok (.newarray .long, 2) := by decide +kernel
theorem dX0_init_9 : decode cX0_init 9 = .ok (.putfield 9, 3) := by decide +kernel
theorem dX0_init_12 : decode cX0_init 12 = .ok (.aload_n 0, 1) := by decide +kernel
theorem dX0_init_13 : decode cX0_init 13 = .ok (.bipush 40, 2) := by decide +kernel
theorem dX0_init_15 : decode cX0_init 15 = .ok (.newarray .long, 2) := by decide +kernel
theorem dX0_init_17 : decode cX0_init 17 = .ok (.putfield 15, 3) := by decide +kernel
theorem dX0_init_20 : decode cX0_init 20 = .ok (.aload_n 0, 1) := by decide +kernel
theorem dX0_init_21 : decode cX0_init 21 = .ok (.bipush 40, 2) := by decide +kernel
theorem dX0_init_23 : decode cX0_init 23 = .ok (.newarray .long, 2) := by decide +kernel
theorem dX0_init_25 : decode cX0_init 25 = .ok (.putfield 18, 3) := by decide +kernel
theorem dX0_init_28 : decode cX0_init 28 = .ok (.aload_n 0, 1) := by decide +kernel
theorem dX0_init_29 : decode cX0_init 29 = .ok (.lconst 0, 1) := by decide +kernel
theorem dX0_init_30 : decode cX0_init 30 = .ok (.putfield 21, 3) := by decide +kernel
theorem dX0_init_33 : decode cX0_init 33 = .ok (.return_, 1) := by decide +kernel
theorem dX0_find_0 : decode cX0_find 0 = .ok (.aload_n 1, 1) := by decide +kernel
theorem dX0_find_1 : decode cX0_find 1 = .ok (.getfield 25, 3) := by decide +kernel
theorem dX0_find_4 : decode cX0_find 4 = .ok (.i2l, 1) := by decide +kernel
theorem dX0_find_5 : decode cX0_find 5 = .ok (.lstore_n 3, 1) := by decide +kernel
theorem dX0_find_6 : decode cX0_find 6 = .ok (.aload_n 1, 1) := by decide +kernel
theorem dX0_find_7 : decode cX0_find 7 = .ok (.invokevirtual 31, 3) := by decide +kernel
theorem dX0_find_10 : decode cX0_find 10 = .ok (.lstore 5, 2) := by decide +kernel
theorem dX0_find_12 : decode cX0_find 12 = .ok (.iconst 0, 1) := by decide +kernel
theorem dX0_find_13 : decode cX0_find 13 = .ok (.istore 7, 2) := by decide +kernel
theorem dX0_find_15 : decode cX0_find 15 = .ok (.iload 7, 2) := by decide +kernel
theorem dX0_find_17 : decode cX0_find 17 = .ok (.aload_n 1, 1) := by decide +kernel
theorem dX0_find_18 : decode cX0_find 18 = .ok (.getfield 35, 3) := by decide +kernel
theorem dX0_find_21 : decode cX0_find 21 = .ok (.getfield 39, 3) := by decide +kernel
theorem dX0_find_24 : decode cX0_find 24 = .ok (.if_icmp .ge 114, 3) := by decide +kernel
theorem dX0_find_27 : decode cX0_find 27 = .ok (.aload_n 0, 1) := by decide +kernel
theorem dX0_find_28 : decode cX0_find 28 = .ok (.getfield 9, 3) := by decide +kernel
theorem dX0_find_31 : decode cX0_find 31 = .ok (.iload 7, 2) := by decide +kernel
theorem dX0_find_33 : decode cX0_find 33 = .ok (.lload_n 3, 1) := by decide +kernel
theorem dX0_find_34 : decode cX0_find 34 = .ok (.aload_n 1, 1) := by decide +kernel
theorem dX0_find_35 : decode cX0_find 35 = .ok (.getfield 35, 3) := by decide +kernel
theorem dX0_find_38 : decode cX0_find 38 = .ok (.getfield 44, 3) := by decide +kernel
theorem dX0_find_41 : decode cX0_find 41 = .ok (.iload 7, 2) := by decide +kernel
theorem dX0_find_43 : decode cX0_find 43 = .ok (.iaload, 1) := by decide +kernel
theorem dX0_find_44 : decode cX0_find 44 = .ok (.i2l, 1) := by decide +kernel
theorem dX0_find_45 : decode cX0_find 45 = .ok (.invokestatic 48, 3) := by decide +kernel
theorem dX0_find_48 : decode cX0_find 48 = .ok (.lastore, 1) := by decide +kernel
theorem dX0_find_49 : decode cX0_find 49 = .ok (.aload_n 0, 1) := by decide +kernel
theorem dX0_find_50 : decode cX0_find 50 = .ok (.getfield 9, 3) := by decide +kernel
theorem dX0_find_53 : decode cX0_find 53 = .ok (.iload 7, 2) := by decide +kernel
theorem dX0_find_55 : decode cX0_find 55 = .ok (.laload, 1) := by decide +kernel
theorem dX0_find_56 : decode cX0_find 56 = .ok (.aload_n 1, 1) := by decide +kernel
theorem dX0_find_57 : decode cX0_find 57 = .ok (.getfield 35, 3) := by decide +kernel
theorem dX0_find_60 : decode cX0_find 60 = .ok (.getfield 52, 3) := by decide +kernel
theorem dX0_find_63 : decode cX0_find 63 = .ok (.iload 7, 2) := by decide +kernel
theorem dX0_find_65 : decode cX0_find 65 = .ok (.iaload, 1) := by decide +kernel
theorem dX0_find_66 : decode cX0_find 66 = .ok (.i2l, 1) := by decide +kernel
theorem dX0_find_67 : decode cX0_find 67 = .ok (.ladd, 1) := by decide +kernel
theorem dX0_find_68 : decode cX0_find 68 = .ok (.lstore_n 3, 1) := by decide +kernel
theorem dX0_find_69 : decode cX0_find 69 = .ok (.aload_n 0, 1) := by decide +kernel
theorem dX0_find_70 : decode cX0_find 70 = .ok (.getfield 15, 3) := by decide +kernel
theorem dX0_find_73 : decode cX0_find 73 = .ok (.iload 7, 2) := by decide +kernel
theorem dX0_find_75 : decode cX0_find 75 = .ok (.lload_n 3, 1) := by decide +kernel
theorem dX0_find_76 : decode cX0_find 76 = .ok (.aload_n 1, 1) := by decide +kernel
theorem dX0_find_77 : decode cX0_find 77 = .ok (.getfield 55, 3) := by decide +kernel
theorem dX0_find_80 : decode cX0_find 80 = .ok (.i2l, 1) := by decide +kernel
theorem dX0_find_81 : decode cX0_find 81 = .ok (.invokestatic 48, 3) := by decide +kernel
theorem dX0_find_84 : decode cX0_find 84 = .ok (.lastore, 1) := by decide +kernel
theorem dX0_find_85 : decode cX0_find 85 = .ok (.aload_n 0, 1) := by decide +kernel
theorem dX0_find_86 : decode cX0_find 86 = .ok (.getfield 18, 3) := by decide +kernel
theorem dX0_find_89 : decode cX0_find 89 = .ok (.iload 7, 2) := by decide +kernel
theorem dX0_find_91 : decode cX0_find 91 = .ok (.aload_n 0, 1) := by decide +kernel
theorem dX0_find_92 : decode cX0_find 92 = .ok (.getfield 15, 3) := by decide +kernel
theorem dX0_find_95 : decode cX0_find 95 = .ok (.iload 7, 2) := by decide +kernel
theorem dX0_find_97 : decode cX0_find 97 = .ok (.laload, 1) := by decide +kernel
theorem dX0_find_98 : decode cX0_find 98 = .ok (.aload_n 2, 1) := by decide +kernel
theorem dX0_find_99 : decode cX0_find 99 = .ok (.iload 7, 2) := by decide +kernel
theorem dX0_find_101 : decode cX0_find 101 = .ok (.iaload, 1) := by decide +kernel
theorem dX0_find_102 : decode cX0_find 102 = .ok (.i2l, 1) := by decide +kernel
theorem dX0_find_103 : decode cX0_find 103 = .ok (.lload 5, 2) := by decide +kernel
theorem dX0_find_105 : decode cX0_find 105 = .ok (.lmul, 1) := by decide +kernel
theorem dX0_find_106 : decode cX0_find 106 = .ok (.ladd, 1) := by decide +kernel
theorem dX0_find_107 : decode cX0_find 107 = .ok (.lastore, 1) := by decide +kernel
theorem dX0_find_108 : decode cX0_find 108 = .ok (.aload_n 2, 1) := by decide +kernel
theorem dX0_find_109 : decode cX0_find 109 = .ok (.iload 7, 2) := by decide +kernel
theorem dX0_find_111 : decode cX0_find 111 = .ok (.iaload, 1) := by decide +kernel
theorem dX0_find_112 : decode cX0_find 112 = .ok (.ifCond .le 20, 3) := by decide +kernel
theorem dX0_find_115 : decode cX0_find 115 = .ok (.aload_n 0, 1) := by decide +kernel
theorem dX0_find_116 : decode cX0_find 116 = .ok (.getfield 18, 3) := by decide +kernel
theorem dX0_find_119 : decode cX0_find 119 = .ok (.iload 7, 2) := by decide +kernel
theorem dX0_find_121 : decode cX0_find 121 = .ok (.laload, 1) := by decide +kernel
theorem dX0_find_122 : decode cX0_find 122 = .ok (.lload 5, 2) := by decide +kernel
theorem dX0_find_124 : decode cX0_find 124 = .ok (.lsub, 1) := by decide +kernel
theorem dX0_find_125 : decode cX0_find 125 = .ok (.aload_n 1, 1) := by decide +kernel
theorem dX0_find_126 : decode cX0_find 126 = .ok (.getfield 58, 3) := by decide +kernel
theorem dX0_find_129 : decode cX0_find 129 = .ok (.i2l, 1) := by decide +kernel
theorem dX0_find_130 : decode cX0_find 130 = .ok (.ladd, 1) := by decide +kernel
theorem dX0_find_131 : decode cX0_find 131 = .ok (.lstore_n 3, 1) := by decide +kernel
theorem dX0_find_132 : decode cX0_find 132 = .ok (.iinc 7 1, 3) := by decide +kernel
theorem dX0_find_135 : decode cX0_find 135 = .ok (.goto (-120), 3) := by decide +kernel
theorem dX0_find_138 : decode cX0_find 138 = .ok (.aload_n 0, 1) := by decide +kernel
theorem dX0_find_139 : decode cX0_find 139 = .ok (.lload_n 3, 1) := by decide +kernel
theorem dX0_find_140 : decode cX0_find 140 = .ok (.putfield 21, 3) := by decide +kernel
theorem dX0_find_143 : decode cX0_find 143 = .ok (.return_, 1) := by decide +kernel
theorem dX1_init_0 : decode cX1_init 0 = .ok (.aload_n 0, 1) := by decide +kernel
theorem dX1_init_1 : decode cX1_init 1 = .ok (.invokespecial 3, 3) := by decide +kernel
theorem dX1_init_4 : decode cX1_init 4 = .ok (.aload_n 0, 1) := by decide +kernel
theorem dX1_init_5 : decode cX1_init 5 = .ok (.iconst 0, 1) := by decide +kernel
theorem dX1_init_6 : decode cX1_init 6 = .ok (.putfield 9, 3) := by decide +kernel
theorem dX1_init_9 : decode cX1_init 9 = .ok (.aload_n 0, 1) := by decide +kernel
theorem dX1_init_10 : decode cX1_init 10 = .ok (.sipush 200, 3) := by decide +kernel
theorem dX1_init_13 : decode cX1_init 13 = .ok (.newarray .int, 2) := by decide +kernel
theorem dX1_init_15 : decode cX1_init 15 = .ok (.putfield 15, 3) := by decide +kernel
theorem dX1_init_18 : decode cX1_init 18 = .ok (.aload_n 0, 1) := by decide +kernel
theorem dX1_init_19 : decode cX1_init 19 = .ok (.sipush 200, 3) := by decide +kernel
theorem dX1_init_22 : decode cX1_init 22 = .ok (.newarray .int, 2) := by decide +kernel
theorem dX1_init_24 : decode cX1_init 24 = .ok (.putfield 19, 3) := by decide +kernel
theorem dX1_init_27 : decode cX1_init 27 = .ok (.aload_n 0, 1) := by decide +kernel
theorem dX1_init_28 : decode cX1_init 28 = .ok (.sipush 200, 3) := by decide +kernel
theorem dX1_init_31 : decode cX1_init 31 = .ok (.newarray .int, 2) := by decide +kernel
theorem dX1_init_33 : decode cX1_init 33 = .ok (.putfield 22, 3) := by decide +kernel
theorem dX1_init_36 : decode cX1_init 36 = .ok (.aload_n 0, 1) := by decide +kernel
theorem dX1_init_37 : decode cX1_init 37 = .ok (.sipush 200, 3) := by decide +kernel
theorem dX1_init_40 : decode cX1_init 40 = .ok (.newarray .int, 2) := by decide +kernel
theorem dX1_init_42 : decode cX1_init 42 = .ok (.putfield 25, 3) := by decide +kernel
theorem dX1_init_45 : decode cX1_init 45 = .ok (.return_, 1) := by decide +kernel
theorem dX1_has_0 : decode cX1_has 0 = .ok (.iload_n 1, 1) := by decide +kernel
theorem dX1_has_1 : decode cX1_has 1 = .ok (.ifCond .lt 15, 3) := by decide +kernel
theorem dX1_has_4 : decode cX1_has 4 = .ok (.iload_n 1, 1) := by decide +kernel
theorem dX1_has_5 : decode cX1_has 5 = .ok (.aload_n 0, 1) := by decide +kernel
theorem dX1_has_6 : decode cX1_has 6 = .ok (.getfield 9, 3) := by decide +kernel
theorem dX1_has_9 : decode cX1_has 9 = .ok (.if_icmp .ge 7, 3) := by decide +kernel
theorem dX1_has_12 : decode cX1_has 12 = .ok (.iconst 1, 1) := by decide +kernel
theorem dX1_has_13 : decode cX1_has 13 = .ok (.goto 4, 3) := by decide +kernel
theorem dX1_has_16 : decode cX1_has 16 = .ok (.iconst 0, 1) := by decide +kernel
theorem dX1_has_17 : decode cX1_has 17 = .ok (.ireturn, 1) := by decide +kernel
theorem dX1_append_0 : decode cX1_append 0 = .ok (.aload_n 0, 1) := by decide +kernel
theorem dX1_append_1 : decode cX1_append 1 = .ok (.getfield 9, 3) := by decide +kernel
theorem dX1_append_4 : decode cX1_append 4 = .ok (.sipush 200, 3) := by decide +kernel
theorem dX1_append_7 : decode cX1_append 7 = .ok (.if_icmp .lt 5, 3) := by decide +kernel
theorem dX1_append_10 : decode cX1_append 10 = .ok (.iconst (-1), 1) := by decide +kernel
theorem dX1_append_11 : decode cX1_append 11 = .ok (.ireturn, 1) := by decide +kernel
theorem dX1_append_12 : decode cX1_append 12 = .ok (.aload_n 0, 1) := by decide +kernel
theorem dX1_append_13 : decode cX1_append 13 = .ok (.getfield 9, 3) := by decide +kernel
theorem dX1_append_16 : decode cX1_append 16 = .ok (.istore 5, 2) := by decide +kernel
theorem dX1_append_18 : decode cX1_append 18 = .ok (.aload_n 0, 1) := by decide +kernel
theorem dX1_append_19 : decode cX1_append 19 = .ok (.getfield 15, 3) := by decide +kernel
theorem dX1_append_22 : decode cX1_append 22 = .ok (.iload 5, 2) := by decide +kernel
theorem dX1_append_24 : decode cX1_append 24 = .ok (.iload_n 1, 1) := by decide +kernel
theorem dX1_append_25 : decode cX1_append 25 = .ok (.iastore, 1) := by decide +kernel
theorem dX1_append_26 : decode cX1_append 26 = .ok (.aload_n 0, 1) := by decide +kernel
theorem dX1_append_27 : decode cX1_append 27 = .ok (.getfield 19, 3) := by decide +kernel
theorem dX1_append_30 : decode cX1_append 30 = .ok (.iload 5, 2) := by decide +kernel
theorem dX1_append_32 : decode cX1_append 32 = .ok (.iload_n 2, 1) := by decide +kernel
theorem dX1_append_33 : decode cX1_append 33 = .ok (.iastore, 1) := by decide +kernel
theorem dX1_append_34 : decode cX1_append 34 = .ok (.aload_n 0, 1) := by decide +kernel
theorem dX1_append_35 : decode cX1_append 35 = .ok (.getfield 22, 3) := by decide +kernel
theorem dX1_append_38 : decode cX1_append 38 = .ok (.iload 5, 2) := by decide +kernel
theorem dX1_append_40 : decode cX1_append 40 = .ok (.iload_n 3, 1) := by decide +kernel
theorem dX1_append_41 : decode cX1_append 41 = .ok (.iastore, 1) := by decide +kernel
theorem dX1_append_42 : decode cX1_append 42 = .ok (.aload_n 0, 1) := by decide +kernel
theorem dX1_append_43 : decode cX1_append 43 = .ok (.getfield 25, 3) := by decide +kernel
theorem dX1_append_46 : decode cX1_append 46 = .ok (.iload 5, 2) := by decide +kernel
theorem dX1_append_48 : decode cX1_append 48 = .ok (.iload 4, 2) := by decide +kernel
theorem dX1_append_50 : decode cX1_append 50 = .ok (.iastore, 1) := by decide +kernel
theorem dX1_append_51 : decode cX1_append 51 = .ok (.aload_n 0, 1) := by decide +kernel
theorem dX1_append_52 : decode cX1_append 52 = .ok (.dup, 1) := by decide +kernel
theorem dX1_append_53 : decode cX1_append 53 = .ok (.getfield 9, 3) := by decide +kernel
theorem dX1_append_56 : decode cX1_append 56 = .ok (.iconst 1, 1) := by decide +kernel
theorem dX1_append_57 : decode cX1_append 57 = .ok (.iadd, 1) := by decide +kernel
theorem dX1_append_58 : decode cX1_append 58 = .ok (.putfield 9, 3) := by decide +kernel
theorem dX1_append_61 : decode cX1_append 61 = .ok (.iload 5, 2) := by decide +kernel
theorem dX1_append_63 : decode cX1_append 63 = .ok (.ireturn, 1) := by decide +kernel
theorem dX1_highestIn_0 : decode cX1_highestIn 0 = .ok (.iconst (-1), 1) := by decide +kernel
theorem dX1_highestIn_1 : decode cX1_highestIn 1 = .ok (.istore_n 2, 1) := by decide +kernel
theorem dX1_highestIn_2 : decode cX1_highestIn 2 = .ok (.iconst 0, 1) := by decide +kernel
theorem dX1_highestIn_3 : decode cX1_highestIn 3 = .ok (.istore_n 3, 1) := by decide +kernel
theorem dX1_highestIn_4 : decode cX1_highestIn 4 = .ok (.iload_n 3, 1) := by decide +kernel
theorem dX1_highestIn_5 : decode cX1_highestIn 5 = .ok (.aload_n 0, 1) := by decide +kernel
theorem dX1_highestIn_6 : decode cX1_highestIn 6 = .ok (.getfield 9, 3) := by decide +kernel
theorem dX1_highestIn_9 : decode cX1_highestIn 9 = .ok (.if_icmp .ge 30, 3) := by decide +kernel
theorem dX1_highestIn_12 : decode cX1_highestIn 12 = .ok (.aload_n 0, 1) := by decide +kernel
theorem dX1_highestIn_13 : decode cX1_highestIn 13 = .ok (.getfield 15, 3) := by decide +kernel
theorem dX1_highestIn_16 : decode cX1_highestIn 16 = .ok (.iload_n 3, 1) := by decide +kernel
theorem dX1_highestIn_17 : decode cX1_highestIn 17 = .ok (.iaload, 1) := by decide +kernel
theorem dX1_highestIn_18 : decode cX1_highestIn 18 = .ok (.iload_n 1, 1) := by decide +kernel
theorem dX1_highestIn_19 : decode cX1_highestIn 19 = .ok (.if_icmp .ne 14, 3) := by decide +kernel
theorem dX1_highestIn_22 : decode cX1_highestIn 22 = .ok (.iload_n 2, 1) := by decide +kernel
theorem dX1_highestIn_23 : decode cX1_highestIn 23 = .ok (.aload_n 0, 1) := by decide +kernel
theorem dX1_highestIn_24 : decode cX1_highestIn 24 = .ok (.getfield 19, 3) := by decide +kernel
theorem dX1_highestIn_27 : decode cX1_highestIn 27 = .ok (.iload_n 3, 1) := by decide +kernel
theorem dX1_highestIn_28 : decode cX1_highestIn 28 = .ok (.iaload, 1) := by decide +kernel
theorem dX1_highestIn_29 : decode cX1_highestIn 29 = .ok (.invokestatic 28, 3) := by decide +kernel
theorem dX1_highestIn_32 : decode cX1_highestIn 32 = .ok (.istore_n 2, 1) := by decide +kernel
theorem dX1_highestIn_33 : decode cX1_highestIn 33 = .ok (.iinc 3 1, 3) := by decide +kernel
theorem dX1_highestIn_36 : decode cX1_highestIn 36 = .ok (.goto (-32), 3) := by decide +kernel
theorem dX1_highestIn_39 : decode cX1_highestIn 39 = .ok (.iload_n 2, 1) := by decide +kernel
theorem dX1_highestIn_40 : decode cX1_highestIn 40 = .ok (.ireturn, 1) := by decide +kernel
theorem dX1_copyFrom_0 : decode cX1_copyFrom 0 = .ok (.aload_n 0, 1) := by decide +kernel
theorem dX1_copyFrom_1 : decode cX1_copyFrom 1 = .ok (.aload_n 1, 1) := by decide +kernel
theorem dX1_copyFrom_2 : decode cX1_copyFrom 2 = .ok (.getfield 9, 3) := by decide +kernel
theorem dX1_copyFrom_5 : decode cX1_copyFrom 5 = .ok (.putfield 9, 3) := by decide +kernel
theorem dX1_copyFrom_8 : decode cX1_copyFrom 8 = .ok (.aload_n 1, 1) := by decide +kernel
theorem dX1_copyFrom_9 : decode cX1_copyFrom 9 = .ok (.getfield 15, 3) := by decide +kernel
theorem dX1_copyFrom_12 : decode cX1_copyFrom 12 = .ok (.iconst 0, 1) := by decide +kernel
theorem dX1_copyFrom_13 : decode cX1_copyFrom 13 = .ok (.aload_n 0, 1) := by decide +kernel
theorem dX1_copyFrom_14 : decode cX1_copyFrom 14 = .ok (.getfield 15, 3) := by decide +kernel
theorem dX1_copyFrom_17 : decode cX1_copyFrom 17 = .ok (.iconst 0, 1) := by decide +kernel
theorem dX1_copyFrom_18 : decode cX1_copyFrom 18 = .ok (.sipush 200, 3) := by decide +kernel
theorem dX1_copyFrom_21 : decode cX1_copyFrom 21 = .ok (.invokestatic 34, 3) := by decide +kernel
theorem dX1_copyFrom_24 : decode cX1_copyFrom 24 = .ok (.aload_n 1, 1) := by decide +kernel
theorem dX1_copyFrom_25 : decode cX1_copyFrom 25 = .ok (.getfield 19, 3) := by decide +kernel
theorem dX1_copyFrom_28 : decode cX1_copyFrom 28 = .ok (.iconst 0, 1) := by decide +kernel
theorem dX1_copyFrom_29 : decode cX1_copyFrom 29 = .ok (.aload_n 0, 1) := by decide +kernel
theorem dX1_copyFrom_30 : decode cX1_copyFrom 30 = .ok (.getfield 19, 3) := by decide +kernel
theorem dX1_copyFrom_33 : decode cX1_copyFrom 33 = .ok (.iconst 0, 1) := by decide +kernel
theorem dX1_copyFrom_34 : decode cX1_copyFrom 34 = .ok (.sipush 200, 3) := by decide +kernel
theorem dX1_copyFrom_37 : decode cX1_copyFrom 37 = .ok (.invokestatic 34, 3) := by decide +kernel
theorem dX1_copyFrom_40 : decode cX1_copyFrom 40 = .ok (.aload_n 1, 1) := by decide +kernel
theorem dX1_copyFrom_41 : decode cX1_copyFrom 41 = .ok (.getfield 22, 3) := by decide +kernel
theorem dX1_copyFrom_44 : decode cX1_copyFrom 44 = .ok (.iconst 0, 1) := by decide +kernel
theorem dX1_copyFrom_45 : decode cX1_copyFrom 45 = .ok (.aload_n 0, 1) := by decide +kernel
theorem dX1_copyFrom_46 : decode cX1_copyFrom 46 = .ok (.getfield 22, 3) := by decide +kernel
theorem dX1_copyFrom_49 : decode cX1_copyFrom 49 = .ok (.iconst 0, 1) := by decide +kernel
theorem dX1_copyFrom_50 : decode cX1_copyFrom 50 = .ok (.sipush 200, 3) := by decide +kernel
theorem dX1_copyFrom_53 : decode cX1_copyFrom 53 = .ok (.invokestatic 34, 3) := by decide +kernel
theorem dX1_copyFrom_56 : decode cX1_copyFrom 56 = .ok (.aload_n 1, 1) := by decide +kernel
theorem dX1_copyFrom_57 : decode cX1_copyFrom 57 = .ok (.getfield 25, 3) := by decide +kernel
theorem dX1_copyFrom_60 : decode cX1_copyFrom 60 = .ok (.iconst 0, 1) := by decide +kernel
theorem dX1_copyFrom_61 : decode cX1_copyFrom 61 = .ok (.aload_n 0, 1) := by decide +kernel
theorem dX1_copyFrom_62 : decode cX1_copyFrom 62 = .ok (.getfield 25, 3) := by decide +kernel
theorem dX1_copyFrom_65 : decode cX1_copyFrom 65 = .ok (.iconst 0, 1) := by decide +kernel
theorem dX1_copyFrom_66 : decode cX1_copyFrom 66 = .ok (.sipush 200, 3) := by decide +kernel
theorem dX1_copyFrom_69 : decode cX1_copyFrom 69 = .ok (.invokestatic 34, 3) := by decide +kernel
theorem dX1_copyFrom_72 : decode cX1_copyFrom 72 = .ok (.return_, 1) := by decide +kernel
theorem dX2_init_0 : decode cX2_init 0 = .ok (.aload_n 0, 1) := by decide +kernel
theorem dX2_init_1 : decode cX2_init 1 = .ok (.invokespecial 3, 3) := by decide +kernel
theorem dX2_init_4 : decode cX2_init 4 = .ok (.aload_n 0, 1) := by decide +kernel
theorem dX2_init_5 : decode cX2_init 5 = .ok (.bipush 8, 2) := by decide +kernel
theorem dX2_init_7 : decode cX2_init 7 = .ok (.newarray .int, 2) := by decide +kernel
theorem dX2_init_9 : decode cX2_init 9 = .ok (.putfield 9, 3) := by decide +kernel
theorem dX2_init_12 : decode cX2_init 12 = .ok (.aload_n 0, 1) := by decide +kernel
theorem dX2_init_13 : decode cX2_init 13 = .ok (.bipush 8, 2) := by decide +kernel
theorem dX2_init_15 : decode cX2_init 15 = .ok (.newarray .int, 2) := by decide +kernel
theorem dX2_init_17 : decode cX2_init 17 = .ok (.putfield 15, 3) := by decide +kernel
theorem dX2_init_20 : decode cX2_init 20 = .ok (.return_, 1) := by decide +kernel
theorem dX2_has_0 : decode cX2_has 0 = .ok (.iload_n 1, 1) := by decide +kernel
theorem dX2_has_1 : decode cX2_has 1 = .ok (.ifCond .lt 22, 3) := by decide +kernel
theorem dX2_has_4 : decode cX2_has 4 = .ok (.iload_n 1, 1) := by decide +kernel
theorem dX2_has_5 : decode cX2_has 5 = .ok (.bipush 8, 2) := by decide +kernel
theorem dX2_has_7 : decode cX2_has 7 = .ok (.if_icmp .ge 16, 3) := by decide +kernel
theorem dX2_has_10 : decode cX2_has 10 = .ok (.aload_n 0, 1) := by decide +kernel
theorem dX2_has_11 : decode cX2_has 11 = .ok (.getfield 15, 3) := by decide +kernel
theorem dX2_has_14 : decode cX2_has 14 = .ok (.iload_n 1, 1) := by decide +kernel
theorem dX2_has_15 : decode cX2_has 15 = .ok (.iaload, 1) := by decide +kernel
theorem dX2_has_16 : decode cX2_has 16 = .ok (.ifCond .eq 7, 3) := by decide +kernel
theorem dX2_has_19 : decode cX2_has 19 = .ok (.iconst 1, 1) := by decide +kernel
theorem dX2_has_20 : decode cX2_has 20 = .ok (.goto 4, 3) := by decide +kernel
theorem dX2_has_23 : decode cX2_has 23 = .ok (.iconst 0, 1) := by decide +kernel
theorem dX2_has_24 : decode cX2_has 24 = .ok (.ireturn, 1) := by decide +kernel
theorem dX2_tell_0 : decode cX2_tell 0 = .ok (.iload_n 2, 1) := by decide +kernel
theorem dX2_tell_1 : decode cX2_tell 1 = .ok (.invokestatic 18, 3) := by decide +kernel
theorem dX2_tell_4 : decode cX2_tell 4 = .ok (.istore 4, 2) := by decide +kernel
theorem dX2_tell_6 : decode cX2_tell 6 = .ok (.iload_n 1, 1) := by decide +kernel
theorem dX2_tell_7 : decode cX2_tell 7 = .ok (.ifCond .lt 26, 3) := by decide +kernel
theorem dX2_tell_10 : decode cX2_tell 10 = .ok (.iload_n 1, 1) := by decide +kernel
theorem dX2_tell_11 : decode cX2_tell 11 = .ok (.bipush 8, 2) := by decide +kernel
theorem dX2_tell_13 : decode cX2_tell 13 = .ok (.if_icmp .ge 20, 3) := by decide +kernel
theorem dX2_tell_16 : decode cX2_tell 16 = .ok (.iload 4, 2) := by decide +kernel
theorem dX2_tell_18 : decode cX2_tell 18 = .ok (.iconst (-1), 1) := by decide +kernel
theorem dX2_tell_19 : decode cX2_tell 19 = .ok (.if_icmp .eq 14, 3) := by decide +kernel
theorem dX2_tell_22 : decode cX2_tell 22 = .ok (.iload_n 3, 1) := by decide +kernel
theorem dX2_tell_23 : decode cX2_tell 23 = .ok (.iconst 4, 1) := by decide +kernel
theorem dX2_tell_24 : decode cX2_tell 24 = .ok (.if_icmp .lt 9, 3) := by decide +kernel
theorem dX2_tell_27 : decode cX2_tell 27 = .ok (.iload_n 3, 1) := by decide +kernel
theorem dX2_tell_28 : decode cX2_tell 28 = .ok (.bipush 30, 2) := by decide +kernel
theorem dX2_tell_30 : decode cX2_tell 30 = .ok (.if_icmp .le 5, 3) := by decide +kernel
theorem dX2_tell_33 : decode cX2_tell 33 = .ok (.iconst 0, 1) := by decide +kernel
theorem dX2_tell_34 : decode cX2_tell 34 = .ok (.ireturn, 1) := by decide +kernel
theorem dX2_tell_35 : decode cX2_tell 35 = .ok (.aload_n 0, 1) := by decide +kernel
theorem dX2_tell_36 : decode cX2_tell 36 = .ok (.getfield 9, 3) := by decide +kernel
theorem dX2_tell_39 : decode cX2_tell 39 = .ok (.iload_n 1, 1) := by decide +kernel
theorem dX2_tell_40 : decode cX2_tell 40 = .ok (.iload 4, 2) := by decide +kernel
theorem dX2_tell_42 : decode cX2_tell 42 = .ok (.iastore, 1) := by decide +kernel
theorem dX2_tell_43 : decode cX2_tell 43 = .ok (.aload_n 0, 1) := by decide +kernel
theorem dX2_tell_44 : decode cX2_tell 44 = .ok (.getfield 15, 3) := by decide +kernel
theorem dX2_tell_47 : decode cX2_tell 47 = .ok (.iload_n 1, 1) := by decide +kernel
theorem dX2_tell_48 : decode cX2_tell 48 = .ok (.iload_n 3, 1) := by decide +kernel
theorem dX2_tell_49 : decode cX2_tell 49 = .ok (.iastore, 1) := by decide +kernel
theorem dX2_tell_50 : decode cX2_tell 50 = .ok (.iconst 1, 1) := by decide +kernel
theorem dX2_tell_51 : decode cX2_tell 51 = .ok (.ireturn, 1) := by decide +kernel
theorem dX2_powerOf_0 : decode cX2_powerOf 0 = .ok (.iload_n 0, 1) := by decide +kernel
theorem dX2_powerOf_1 : decode cX2_powerOf 1 = .ok (.tableswitch 55 1 8 #[47, 49, 55, 51, 55, 55, 55, 53], 47) := by decide +kernel
theorem dX2_powerOf_48 : decode cX2_powerOf 48 = .ok (.iconst 0, 1) := by decide +kernel
theorem dX2_powerOf_49 : decode cX2_powerOf 49 = .ok (.ireturn, 1) := by decide +kernel
theorem dX2_powerOf_50 : decode cX2_powerOf 50 = .ok (.iconst 1, 1) := by decide +kernel
theorem dX2_powerOf_51 : decode cX2_powerOf 51 = .ok (.ireturn, 1) := by decide +kernel
theorem dX2_powerOf_52 : decode cX2_powerOf 52 = .ok (.iconst 2, 1) := by decide +kernel
theorem dX2_powerOf_53 : decode cX2_powerOf 53 = .ok (.ireturn, 1) := by decide +kernel
theorem dX2_powerOf_54 : decode cX2_powerOf 54 = .ok (.iconst 3, 1) := by decide +kernel
theorem dX2_powerOf_55 : decode cX2_powerOf 55 = .ok (.ireturn, 1) := by decide +kernel
theorem dX2_powerOf_56 : decode cX2_powerOf 56 = .ok (.iconst (-1), 1) := by decide +kernel
theorem dX2_powerOf_57 : decode cX2_powerOf 57 = .ok (.ireturn, 1) := by decide +kernel
theorem dX2_reaches_0 : decode cX2_reaches 0 = .ok (.aload_n 0, 1) := by decide +kernel
theorem dX2_reaches_1 : decode cX2_reaches 1 = .ok (.iload_n 1, 1) := by decide +kernel
theorem dX2_reaches_2 : decode cX2_reaches 2 = .ok (.invokevirtual 22, 3) := by decide +kernel
theorem dX2_reaches_5 : decode cX2_reaches 5 = .ok (.ifCond .ne 5, 3) := by decide +kernel
theorem dX2_reaches_8 : decode cX2_reaches 8 = .ok (.iconst 0, 1) := by decide +kernel
theorem dX2_reaches_9 : decode cX2_reaches 9 = .ok (.ireturn, 1) := by decide +kernel
theorem dX2_reaches_10 : decode cX2_reaches 10 = .ok (.lload 4, 2) := by decide +kernel
theorem dX2_reaches_12 : decode cX2_reaches 12 = .ok (.lload_n 2, 1) := by decide +kernel
theorem dX2_reaches_13 : decode cX2_reaches 13 = .ok (.lsub, 1) := by decide +kernel
theorem dX2_reaches_14 : decode cX2_reaches 14 = .ok (.lstore 6, 2) := by decide +kernel
theorem dX2_reaches_16 : decode cX2_reaches 16 = .ok (.lload 6, 2) := by decide +kernel
theorem dX2_reaches_18 : decode cX2_reaches 18 = .ok (.aload_n 0, 1) := by decide +kernel
theorem dX2_reaches_19 : decode cX2_reaches 19 = .ok (.getfield 9, 3) := by decide +kernel
theorem dX2_reaches_22 : decode cX2_reaches 22 = .ok (.iload_n 1, 1) := by decide +kernel
theorem dX2_reaches_23 : decode cX2_reaches 23 = .ok (.iaload, 1) := by decide +kernel
theorem dX2_reaches_24 : decode cX2_reaches 24 = .ok (.lshr, 1) := by decide +kernel
theorem dX2_reaches_25 : decode cX2_reaches 25 = .ok (.lstore 8, 2) := by decide +kernel
theorem dX2_reaches_27 : decode cX2_reaches 27 = .ok (.lconst 1, 1) := by decide +kernel
theorem dX2_reaches_28 : decode cX2_reaches 28 = .ok (.aload_n 0, 1) := by decide +kernel
theorem dX2_reaches_29 : decode cX2_reaches 29 = .ok (.getfield 15, 3) := by decide +kernel
theorem dX2_reaches_32 : decode cX2_reaches 32 = .ok (.iload_n 1, 1) := by decide +kernel
theorem dX2_reaches_33 : decode cX2_reaches 33 = .ok (.iaload, 1) := by decide +kernel
theorem dX2_reaches_34 : decode cX2_reaches 34 = .ok (.iconst 1, 1) := by decide +kernel
theorem dX2_reaches_35 : decode cX2_reaches 35 = .ok (.isub, 1) := by decide +kernel
theorem dX2_reaches_36 : decode cX2_reaches 36 = .ok (.lshl, 1) := by decide +kernel
theorem dX2_reaches_37 : decode cX2_reaches 37 = .ok (.lstore 10, 2) := by decide +kernel
theorem dX2_reaches_39 : decode cX2_reaches 39 = .ok (.lload 8, 2) := by decide +kernel
theorem dX2_reaches_41 : decode cX2_reaches 41 = .ok (.aload_n 0, 1) := by decide +kernel
theorem dX2_reaches_42 : decode cX2_reaches 42 = .ok (.getfield 9, 3) := by decide +kernel
theorem dX2_reaches_45 : decode cX2_reaches 45 = .ok (.iload_n 1, 1) := by decide +kernel
theorem dX2_reaches_46 : decode cX2_reaches 46 = .ok (.iaload, 1) := by decide +kernel
theorem dX2_reaches_47 : decode cX2_reaches 47 = .ok (.lshl, 1) := by decide +kernel
theorem dX2_reaches_48 : decode cX2_reaches 48 = .ok (.lload 6, 2) := by decide +kernel
theorem dX2_reaches_50 : decode cX2_reaches 50 = .ok (.lcmp, 1) := by decide +kernel
theorem dX2_reaches_51 : decode cX2_reaches 51 = .ok (.ifCond .ne 24, 3) := by decide +kernel
theorem dX2_reaches_54 : decode cX2_reaches 54 = .ok (.lload 8, 2) := by decide +kernel
theorem dX2_reaches_56 : decode cX2_reaches 56 = .ok (.lload 10, 2) := by decide +kernel
theorem dX2_reaches_58 : decode cX2_reaches 58 = .ok (.lneg, 1) := by decide +kernel
theorem dX2_reaches_59 : decode cX2_reaches 59 = .ok (.lcmp, 1) := by decide +kernel
theorem dX2_reaches_60 : decode cX2_reaches 60 = .ok (.ifCond .lt 15, 3) := by decide +kernel
theorem dX2_reaches_63 : decode cX2_reaches 63 = .ok (.lload 8, 2) := by decide +kernel
theorem dX2_reaches_65 : decode cX2_reaches 65 = .ok (.lload 10, 2) := by decide +kernel
theorem dX2_reaches_67 : decode cX2_reaches 67 = .ok (.lcmp, 1) := by decide +kernel
theorem dX2_reaches_68 : decode cX2_reaches 68 = .ok (.ifCond .ge 7, 3) := by decide +kernel
theorem dX2_reaches_71 : decode cX2_reaches 71 = .ok (.iconst 1, 1) := by decide +kernel
theorem dX2_reaches_72 : decode cX2_reaches 72 = .ok (.goto 4, 3) := by decide +kernel
theorem dX2_reaches_75 : decode cX2_reaches 75 = .ok (.iconst 0, 1) := by decide +kernel
theorem dX2_reaches_76 : decode cX2_reaches 76 = .ok (.ireturn, 1) := by decide +kernel
theorem dX2_encode_0 : decode cX2_encode 0 = .ok (.aload_n 0, 1) := by decide +kernel
theorem dX2_encode_1 : decode cX2_encode 1 = .ok (.iload_n 1, 1) := by decide +kernel
theorem dX2_encode_2 : decode cX2_encode 2 = .ok (.lload_n 2, 1) := by decide +kernel
theorem dX2_encode_3 : decode cX2_encode 3 = .ok (.lload 4, 2) := by decide +kernel
theorem dX2_encode_5 : decode cX2_encode 5 = .ok (.invokevirtual 26, 3) := by decide +kernel
theorem dX2_encode_8 : decode cX2_encode 8 = .ok (.ifCond .ne 5, 3) := by decide +kernel
theorem dX2_encode_11 : decode cX2_encode 11 = .ok (.iconst (-1), 1) := by decide +kernel
theorem dX2_encode_12 : decode cX2_encode 12 = .ok (.ireturn, 1) := by decide +kernel
theorem dX2_encode_13 : decode cX2_encode 13 = .ok (.lload 4, 2) := by decide +kernel
theorem dX2_encode_15 : decode cX2_encode 15 = .ok (.lload_n 2, 1) := by decide +kernel
theorem dX2_encode_16 : decode cX2_encode 16 = .ok (.lsub, 1) := by decide +kernel
theorem dX2_encode_17 : decode cX2_encode 17 = .ok (.aload_n 0, 1) := by decide +kernel
theorem dX2_encode_18 : decode cX2_encode 18 = .ok (.getfield 9, 3) := by decide +kernel
theorem dX2_encode_21 : decode cX2_encode 21 = .ok (.iload_n 1, 1) := by decide +kernel
theorem dX2_encode_22 : decode cX2_encode 22 = .ok (.iaload, 1) := by decide +kernel
theorem dX2_encode_23 : decode cX2_encode 23 = .ok (.lshr, 1) := by decide +kernel
theorem dX2_encode_24 : decode cX2_encode 24 = .ok (.lstore 6, 2) := by decide +kernel
theorem dX2_encode_26 : decode cX2_encode 26 = .ok (.lload 6, 2) := by decide +kernel
theorem dX2_encode_28 : decode cX2_encode 28 = .ok (.lconst 1, 1) := by decide +kernel
theorem dX2_encode_29 : decode cX2_encode 29 = .ok (.aload_n 0, 1) := by decide +kernel
theorem dX2_encode_30 : decode cX2_encode 30 = .ok (.getfield 15, 3) := by decide +kernel
theorem dX2_encode_33 : decode cX2_encode 33 = .ok (.iload_n 1, 1) := by decide +kernel
theorem dX2_encode_34 : decode cX2_encode 34 = .ok (.iaload, 1) := by decide +kernel
theorem dX2_encode_35 : decode cX2_encode 35 = .ok (.lshl, 1) := by decide +kernel
theorem dX2_encode_36 : decode cX2_encode 36 = .ok (.lconst 1, 1) := by decide +kernel
theorem dX2_encode_37 : decode cX2_encode 37 = .ok (.lsub, 1) := by decide +kernel
theorem dX2_encode_38 : decode cX2_encode 38 = .ok (.land, 1) := by decide +kernel
theorem dX2_encode_39 : decode cX2_encode 39 = .ok (.l2i, 1) := by decide +kernel
theorem dX2_encode_40 : decode cX2_encode 40 = .ok (.ireturn, 1) := by decide +kernel
theorem dX2_follow_0 : decode cX2_follow 0 = .ok (.aload_n 0, 1) := by decide +kernel
theorem dX2_follow_1 : decode cX2_follow 1 = .ok (.iload_n 1, 1) := by decide +kernel
theorem dX2_follow_2 : decode cX2_follow 2 = .ok (.invokevirtual 22, 3) := by decide +kernel
theorem dX2_follow_5 : decode cX2_follow 5 = .ok (.ifCond .ne 7, 3) := by decide +kernel
theorem dX2_follow_8 : decode cX2_follow 8 = .ok (.ldc2_w 30, 3) := by decide +kernel
theorem dX2_follow_11 : decode cX2_follow 11 = .ok (.lreturn, 1) := by decide +kernel
theorem dX2_follow_12 : decode cX2_follow 12 = .ok (.lconst 1, 1) := by decide +kernel
theorem dX2_follow_13 : decode cX2_follow 13 = .ok (.aload_n 0, 1) := by decide +kernel
theorem dX2_follow_14 : decode cX2_follow 14 = .ok (.getfield 15, 3) := by decide +kernel
theorem dX2_follow_17 : decode cX2_follow 17 = .ok (.iload_n 1, 1) := by decide +kernel
theorem dX2_follow_18 : decode cX2_follow 18 = .ok (.iaload, 1) := by decide +kernel
theorem dX2_follow_19 : decode cX2_follow 19 = .ok (.iconst 1, 1) := by decide +kernel
theorem dX2_follow_20 : decode cX2_follow 20 = .ok (.isub, 1) := by decide +kernel
theorem dX2_follow_21 : decode cX2_follow 21 = .ok (.lshl, 1) := by decide +kernel
theorem dX2_follow_22 : decode cX2_follow 22 = .ok (.lstore 5, 2) := by decide +kernel
theorem dX2_follow_24 : decode cX2_follow 24 = .ok (.iload 4, 2) := by decide +kernel
theorem dX2_follow_26 : decode cX2_follow 26 = .ok (.i2l, 1) := by decide +kernel
theorem dX2_follow_27 : decode cX2_follow 27 = .ok (.lload 5, 2) := by decide +kernel
theorem dX2_follow_29 : decode cX2_follow 29 = .ok (.lcmp, 1) := by decide +kernel
theorem dX2_follow_30 : decode cX2_follow 30 = .ok (.ifCond .lt 16, 3) := by decide +kernel
theorem dX2_follow_33 : decode cX2_follow 33 = .ok (.iload 4, 2) := by decide +kernel
theorem dX2_follow_35 : decode cX2_follow 35 = .ok (.i2l, 1) := by decide +kernel
theorem dX2_follow_36 : decode cX2_follow 36 = .ok (.ldc2_w 32, 3) := by decide +kernel
theorem dX2_follow_39 : decode cX2_follow 39 = .ok (.lload 5, 2) := by decide +kernel
theorem dX2_follow_41 : decode cX2_follow 41 = .ok (.lmul, 1) := by decide +kernel
theorem dX2_follow_42 : decode cX2_follow 42 = .ok (.lsub, 1) := by decide +kernel
theorem dX2_follow_43 : decode cX2_follow 43 = .ok (.goto 6, 3) := by decide +kernel
theorem dX2_follow_46 : decode cX2_follow 46 = .ok (.iload 4, 2) := by decide +kernel
theorem dX2_follow_48 : decode cX2_follow 48 = .ok (.i2l, 1) := by decide +kernel
theorem dX2_follow_49 : decode cX2_follow 49 = .ok (.lstore 7, 2) := by decide +kernel
theorem dX2_follow_51 : decode cX2_follow 51 = .ok (.lload_n 2, 1) := by decide +kernel
theorem dX2_follow_52 : decode cX2_follow 52 = .ok (.lload 7, 2) := by decide +kernel
theorem dX2_follow_54 : decode cX2_follow 54 = .ok (.aload_n 0, 1) := by decide +kernel
theorem dX2_follow_55 : decode cX2_follow 55 = .ok (.getfield 9, 3) := by decide +kernel
theorem dX2_follow_58 : decode cX2_follow 58 = .ok (.iload_n 1, 1) := by decide +kernel
theorem dX2_follow_59 : decode cX2_follow 59 = .ok (.iaload, 1) := by decide +kernel
theorem dX2_follow_60 : decode cX2_follow 60 = .ok (.lshl, 1) := by decide +kernel
theorem dX2_follow_61 : decode cX2_follow 61 = .ok (.ladd, 1) := by decide +kernel
theorem dX2_follow_62 : decode cX2_follow 62 = .ok (.lreturn, 1) := by decide +kernel
theorem dX2_copyFrom_0 : decode cX2_copyFrom 0 = .ok (.aload_n 1, 1) := by decide +kernel
theorem dX2_copyFrom_1 : decode cX2_copyFrom 1 = .ok (.getfield 9, 3) := by decide +kernel
theorem dX2_copyFrom_4 : decode cX2_copyFrom 4 = .ok (.iconst 0, 1) := by decide +kernel
theorem dX2_copyFrom_5 : decode cX2_copyFrom 5 = .ok (.aload_n 0, 1) := by decide +kernel
theorem dX2_copyFrom_6 : decode cX2_copyFrom 6 = .ok (.getfield 9, 3) := by decide +kernel
theorem dX2_copyFrom_9 : decode cX2_copyFrom 9 = .ok (.iconst 0, 1) := by decide +kernel
theorem dX2_copyFrom_10 : decode cX2_copyFrom 10 = .ok (.bipush 8, 2) := by decide +kernel
theorem dX2_copyFrom_12 : decode cX2_copyFrom 12 = .ok (.invokestatic 34, 3) := by decide +kernel
theorem dX2_copyFrom_15 : decode cX2_copyFrom 15 = .ok (.aload_n 1, 1) := by decide +kernel
theorem dX2_copyFrom_16 : decode cX2_copyFrom 16 = .ok (.getfield 15, 3) := by decide +kernel
theorem dX2_copyFrom_19 : decode cX2_copyFrom 19 = .ok (.iconst 0, 1) := by decide +kernel
theorem dX2_copyFrom_20 : decode cX2_copyFrom 20 = .ok (.aload_n 0, 1) := by decide +kernel
theorem dX2_copyFrom_21 : decode cX2_copyFrom 21 = .ok (.getfield 15, 3) := by decide +kernel
theorem dX2_copyFrom_24 : decode cX2_copyFrom 24 = .ok (.iconst 0, 1) := by decide +kernel
theorem dX2_copyFrom_25 : decode cX2_copyFrom 25 = .ok (.bipush 8, 2) := by decide +kernel
theorem dX2_copyFrom_27 : decode cX2_copyFrom 27 = .ok (.invokestatic 34, 3) := by decide +kernel
theorem dX2_copyFrom_30 : decode cX2_copyFrom 30 = .ok (.return_, 1) := by decide +kernel
theorem dX3_init_0 : decode cX3_init 0 = .ok (.aload_n 0, 1) := by decide +kernel
theorem dX3_init_1 : decode cX3_init 1 = .ok (.invokespecial 3, 3) := by decide +kernel
theorem dX3_init_4 : decode cX3_init 4 = .ok (.aload_n 0, 1) := by decide +kernel
theorem dX3_init_5 : decode cX3_init 5 = .ok (.iconst 0, 1) := by decide +kernel
theorem dX3_init_6 : decode cX3_init 6 = .ok (.putfield 9, 3) := by decide +kernel
theorem dX3_init_9 : decode cX3_init 9 = .ok (.aload_n 0, 1) := by decide +kernel
theorem dX3_init_10 : decode cX3_init 10 = .ok (.bipush 60, 2) := by decide +kernel
theorem dX3_init_12 : decode cX3_init 12 = .ok (.newarray .int, 2) := by decide +kernel
theorem dX3_init_14 : decode cX3_init 14 = .ok (.putfield 15, 3) := by decide +kernel
theorem dX3_init_17 : decode cX3_init 17 = .ok (.aload_n 0, 1) := by decide +kernel
theorem dX3_init_18 : decode cX3_init 18 = .ok (.bipush 60, 2) := by decide +kernel
theorem dX3_init_20 : decode cX3_init 20 = .ok (.newarray .int, 2) := by decide +kernel
theorem dX3_init_22 : decode cX3_init 22 = .ok (.putfield 19, 3) := by decide +kernel
theorem dX3_init_25 : decode cX3_init 25 = .ok (.return_, 1) := by decide +kernel
theorem dX3_has_0 : decode cX3_has 0 = .ok (.iload_n 1, 1) := by decide +kernel
theorem dX3_has_1 : decode cX3_has 1 = .ok (.ifCond .lt 15, 3) := by decide +kernel
theorem dX3_has_4 : decode cX3_has 4 = .ok (.iload_n 1, 1) := by decide +kernel
theorem dX3_has_5 : decode cX3_has 5 = .ok (.aload_n 0, 1) := by decide +kernel
theorem dX3_has_6 : decode cX3_has 6 = .ok (.getfield 9, 3) := by decide +kernel
theorem dX3_has_9 : decode cX3_has 9 = .ok (.if_icmp .ge 7, 3) := by decide +kernel
theorem dX3_has_12 : decode cX3_has 12 = .ok (.iconst 1, 1) := by decide +kernel
theorem dX3_has_13 : decode cX3_has 13 = .ok (.goto 4, 3) := by decide +kernel
theorem dX3_has_16 : decode cX3_has 16 = .ok (.iconst 0, 1) := by decide +kernel
theorem dX3_has_17 : decode cX3_has 17 = .ok (.ireturn, 1) := by decide +kernel
theorem dX3_append_0 : decode cX3_append 0 = .ok (.aload_n 0, 1) := by decide +kernel
theorem dX3_append_1 : decode cX3_append 1 = .ok (.getfield 9, 3) := by decide +kernel
theorem dX3_append_4 : decode cX3_append 4 = .ok (.bipush 60, 2) := by decide +kernel
theorem dX3_append_6 : decode cX3_append 6 = .ok (.if_icmp .lt 5, 3) := by decide +kernel
theorem dX3_append_9 : decode cX3_append 9 = .ok (.iconst (-1), 1) := by decide +kernel
theorem dX3_append_10 : decode cX3_append 10 = .ok (.ireturn, 1) := by decide +kernel
theorem dX3_append_11 : decode cX3_append 11 = .ok (.aload_n 0, 1) := by decide +kernel
theorem dX3_append_12 : decode cX3_append 12 = .ok (.getfield 9, 3) := by decide +kernel
theorem dX3_append_15 : decode cX3_append 15 = .ok (.istore_n 3, 1) := by decide +kernel
theorem dX3_append_16 : decode cX3_append 16 = .ok (.aload_n 0, 1) := by decide +kernel
theorem dX3_append_17 : decode cX3_append 17 = .ok (.getfield 15, 3) := by decide +kernel
theorem dX3_append_20 : decode cX3_append 20 = .ok (.iload_n 3, 1) := by decide +kernel
theorem dX3_append_21 : decode cX3_append 21 = .ok (.iload_n 1, 1) := by decide +kernel
theorem dX3_append_22 : decode cX3_append 22 = .ok (.iastore, 1) := by decide +kernel
theorem dX3_append_23 : decode cX3_append 23 = .ok (.aload_n 0, 1) := by decide +kernel
theorem dX3_append_24 : decode cX3_append 24 = .ok (.getfield 19, 3) := by decide +kernel
theorem dX3_append_27 : decode cX3_append 27 = .ok (.iload_n 3, 1) := by decide +kernel
theorem dX3_append_28 : decode cX3_append 28 = .ok (.iload_n 2, 1) := by decide +kernel
theorem dX3_append_29 : decode cX3_append 29 = .ok (.iastore, 1) := by decide +kernel
theorem dX3_append_30 : decode cX3_append 30 = .ok (.aload_n 0, 1) := by decide +kernel
theorem dX3_append_31 : decode cX3_append 31 = .ok (.dup, 1) := by decide +kernel
theorem dX3_append_32 : decode cX3_append 32 = .ok (.getfield 9, 3) := by decide +kernel
theorem dX3_append_35 : decode cX3_append 35 = .ok (.iconst 1, 1) := by decide +kernel
theorem dX3_append_36 : decode cX3_append 36 = .ok (.iadd, 1) := by decide +kernel
theorem dX3_append_37 : decode cX3_append 37 = .ok (.putfield 9, 3) := by decide +kernel
theorem dX3_append_40 : decode cX3_append 40 = .ok (.iload_n 3, 1) := by decide +kernel
theorem dX3_append_41 : decode cX3_append 41 = .ok (.ireturn, 1) := by decide +kernel
theorem dX3_highestIn_0 : decode cX3_highestIn 0 = .ok (.iconst (-1), 1) := by decide +kernel
theorem dX3_highestIn_1 : decode cX3_highestIn 1 = .ok (.istore_n 2, 1) := by decide +kernel
theorem dX3_highestIn_2 : decode cX3_highestIn 2 = .ok (.iconst 0, 1) := by decide +kernel
theorem dX3_highestIn_3 : decode cX3_highestIn 3 = .ok (.istore_n 3, 1) := by decide +kernel
theorem dX3_highestIn_4 : decode cX3_highestIn 4 = .ok (.iload_n 3, 1) := by decide +kernel
theorem dX3_highestIn_5 : decode cX3_highestIn 5 = .ok (.aload_n 0, 1) := by decide +kernel
theorem dX3_highestIn_6 : decode cX3_highestIn 6 = .ok (.getfield 9, 3) := by decide +kernel
theorem dX3_highestIn_9 : decode cX3_highestIn 9 = .ok (.if_icmp .ge 30, 3) := by decide +kernel
theorem dX3_highestIn_12 : decode cX3_highestIn 12 = .ok (.aload_n 0, 1) := by decide +kernel
theorem dX3_highestIn_13 : decode cX3_highestIn 13 = .ok (.getfield 15, 3) := by decide +kernel
theorem dX3_highestIn_16 : decode cX3_highestIn 16 = .ok (.iload_n 3, 1) := by decide +kernel
theorem dX3_highestIn_17 : decode cX3_highestIn 17 = .ok (.iaload, 1) := by decide +kernel
theorem dX3_highestIn_18 : decode cX3_highestIn 18 = .ok (.iload_n 1, 1) := by decide +kernel
theorem dX3_highestIn_19 : decode cX3_highestIn 19 = .ok (.if_icmp .ne 14, 3) := by decide +kernel
theorem dX3_highestIn_22 : decode cX3_highestIn 22 = .ok (.iload_n 2, 1) := by decide +kernel
theorem dX3_highestIn_23 : decode cX3_highestIn 23 = .ok (.aload_n 0, 1) := by decide +kernel
theorem dX3_highestIn_24 : decode cX3_highestIn 24 = .ok (.getfield 19, 3) := by decide +kernel
theorem dX3_highestIn_27 : decode cX3_highestIn 27 = .ok (.iload_n 3, 1) := by decide +kernel
theorem dX3_highestIn_28 : decode cX3_highestIn 28 = .ok (.iaload, 1) := by decide +kernel
theorem dX3_highestIn_29 : decode cX3_highestIn 29 = .ok (.invokestatic 22, 3) := by decide +kernel
theorem dX3_highestIn_32 : decode cX3_highestIn 32 = .ok (.istore_n 2, 1) := by decide +kernel
theorem dX3_highestIn_33 : decode cX3_highestIn 33 = .ok (.iinc 3 1, 3) := by decide +kernel
theorem dX3_highestIn_36 : decode cX3_highestIn 36 = .ok (.goto (-32), 3) := by decide +kernel
theorem dX3_highestIn_39 : decode cX3_highestIn 39 = .ok (.iload_n 2, 1) := by decide +kernel
theorem dX3_highestIn_40 : decode cX3_highestIn 40 = .ok (.ireturn, 1) := by decide +kernel
theorem dX3_copyFrom_0 : decode cX3_copyFrom 0 = .ok (.aload_n 0, 1) := by decide +kernel
theorem dX3_copyFrom_1 : decode cX3_copyFrom 1 = .ok (.aload_n 1, 1) := by decide +kernel
theorem dX3_copyFrom_2 : decode cX3_copyFrom 2 = .ok (.getfield 9, 3) := by decide +kernel
theorem dX3_copyFrom_5 : decode cX3_copyFrom 5 = .ok (.putfield 9, 3) := by decide +kernel
theorem dX3_copyFrom_8 : decode cX3_copyFrom 8 = .ok (.aload_n 1, 1) := by decide +kernel
theorem dX3_copyFrom_9 : decode cX3_copyFrom 9 = .ok (.getfield 15, 3) := by decide +kernel
theorem dX3_copyFrom_12 : decode cX3_copyFrom 12 = .ok (.iconst 0, 1) := by decide +kernel
theorem dX3_copyFrom_13 : decode cX3_copyFrom 13 = .ok (.aload_n 0, 1) := by decide +kernel
theorem dX3_copyFrom_14 : decode cX3_copyFrom 14 = .ok (.getfield 15, 3) := by decide +kernel
theorem dX3_copyFrom_17 : decode cX3_copyFrom 17 = .ok (.iconst 0, 1) := by decide +kernel
theorem dX3_copyFrom_18 : decode cX3_copyFrom 18 = .ok (.bipush 60, 2) := by decide +kernel
theorem dX3_copyFrom_20 : decode cX3_copyFrom 20 = .ok (.invokestatic 28, 3) := by decide +kernel
theorem dX3_copyFrom_23 : decode cX3_copyFrom 23 = .ok (.aload_n 1, 1) := by decide +kernel
theorem dX3_copyFrom_24 : decode cX3_copyFrom 24 = .ok (.getfield 19, 3) := by decide +kernel
theorem dX3_copyFrom_27 : decode cX3_copyFrom 27 = .ok (.iconst 0, 1) := by decide +kernel
theorem dX3_copyFrom_28 : decode cX3_copyFrom 28 = .ok (.aload_n 0, 1) := by decide +kernel
theorem dX3_copyFrom_29 : decode cX3_copyFrom 29 = .ok (.getfield 19, 3) := by decide +kernel
theorem dX3_copyFrom_32 : decode cX3_copyFrom 32 = .ok (.iconst 0, 1) := by decide +kernel
theorem dX3_copyFrom_33 : decode cX3_copyFrom 33 = .ok (.bipush 60, 2) := by decide +kernel
theorem dX3_copyFrom_35 : decode cX3_copyFrom 35 = .ok (.invokestatic 28, 3) := by decide +kernel
theorem dX3_copyFrom_38 : decode cX3_copyFrom 38 = .ok (.return_, 1) := by decide +kernel
theorem dX4_init_0 : decode cX4_init 0 = .ok (.aload_n 0, 1) := by decide +kernel
theorem dX4_init_1 : decode cX4_init 1 = .ok (.invokespecial 3, 3) := by decide +kernel
theorem dX4_init_4 : decode cX4_init 4 = .ok (.aload_n 0, 1) := by decide +kernel
theorem dX4_init_5 : decode cX4_init 5 = .ok (.new 9, 3) := by decide +kernel
theorem dX4_init_8 : decode cX4_init 8 = .ok (.dup, 1) := by decide +kernel
theorem dX4_init_9 : decode cX4_init 9 = .ok (.invokespecial 11, 3) := by decide +kernel
theorem dX4_init_12 : decode cX4_init 12 = .ok (.putfield 12, 3) := by decide +kernel
theorem dX4_init_15 : decode cX4_init 15 = .ok (.aload_n 0, 1) := by decide +kernel
theorem dX4_init_16 : decode cX4_init 16 = .ok (.new 18, 3) := by decide +kernel
theorem dX4_init_19 : decode cX4_init 19 = .ok (.dup, 1) := by decide +kernel
theorem dX4_init_20 : decode cX4_init 20 = .ok (.invokespecial 20, 3) := by decide +kernel
theorem dX4_init_23 : decode cX4_init 23 = .ok (.putfield 21, 3) := by decide +kernel
theorem dX4_init_26 : decode cX4_init 26 = .ok (.aload_n 0, 1) := by decide +kernel
theorem dX4_init_27 : decode cX4_init 27 = .ok (.new 25, 3) := by decide +kernel
theorem dX4_init_30 : decode cX4_init 30 = .ok (.dup, 1) := by decide +kernel
theorem dX4_init_31 : decode cX4_init 31 = .ok (.invokespecial 27, 3) := by decide +kernel
theorem dX4_init_34 : decode cX4_init 34 = .ok (.putfield 28, 3) := by decide +kernel
theorem dX4_init_37 : decode cX4_init 37 = .ok (.aload_n 0, 1) := by decide +kernel
theorem dX4_init_38 : decode cX4_init 38 = .ok (.sipush 200, 3) := by decide +kernel
theorem dX4_init_41 : decode cX4_init 41 = .ok (.newarray .int, 2) := by decide +kernel
theorem dX4_init_43 : decode cX4_init 43 = .ok (.putfield 32, 3) := by decide +kernel
theorem dX4_init_46 : decode cX4_init 46 = .ok (.aload_n 0, 1) := by decide +kernel
theorem dX4_init_47 : decode cX4_init 47 = .ok (.sipush 200, 3) := by decide +kernel
theorem dX4_init_50 : decode cX4_init 50 = .ok (.newarray .int, 2) := by decide +kernel
theorem dX4_init_52 : decode cX4_init 52 = .ok (.putfield 36, 3) := by decide +kernel
theorem dX4_init_55 : decode cX4_init 55 = .ok (.aload_n 0, 1) := by decide +kernel
theorem dX4_init_56 : decode cX4_init 56 = .ok (.iconst 0, 1) := by decide +kernel
theorem dX4_init_57 : decode cX4_init 57 = .ok (.putfield 39, 3) := by decide +kernel
theorem dX4_init_60 : decode cX4_init 60 = .ok (.aload_n 0, 1) := by decide +kernel
theorem dX4_init_61 : decode cX4_init 61 = .ok (.iconst 0, 1) := by decide +kernel
theorem dX4_init_62 : decode cX4_init 62 = .ok (.putfield 43, 3) := by decide +kernel
theorem dX4_init_65 : decode cX4_init 65 = .ok (.aload_n 0, 1) := by decide +kernel
theorem dX4_init_66 : decode cX4_init 66 = .ok (.iconst 0, 1) := by decide +kernel
theorem dX4_init_67 : decode cX4_init 67 = .ok (.putfield 46, 3) := by decide +kernel
theorem dX4_init_70 : decode cX4_init 70 = .ok (.aload_n 0, 1) := by decide +kernel
theorem dX4_init_71 : decode cX4_init 71 = .ok (.iconst 0, 1) := by decide +kernel
theorem dX4_init_72 : decode cX4_init 72 = .ok (.putfield 49, 3) := by decide +kernel
theorem dX4_init_75 : decode cX4_init 75 = .ok (.return_, 1) := by decide +kernel
theorem dX4_layOut_0 : decode cX4_layOut 0 = .ok (.aload_n 0, 1) := by decide +kernel
theorem dX4_layOut_1 : decode cX4_layOut 1 = .ok (.getfield 12, 3) := by decide +kernel
theorem dX4_layOut_4 : decode cX4_layOut 4 = .ok (.aload_n 1, 1) := by decide +kernel
theorem dX4_layOut_5 : decode cX4_layOut 5 = .ok (.invokevirtual 52, 3) := by decide +kernel
theorem dX4_layOut_8 : decode cX4_layOut 8 = .ok (.aload_n 0, 1) := by decide +kernel
theorem dX4_layOut_9 : decode cX4_layOut 9 = .ok (.getfield 28, 3) := by decide +kernel
theorem dX4_layOut_12 : decode cX4_layOut 12 = .ok (.invokevirtual 56, 3) := by decide +kernel
theorem dX4_layOut_15 : decode cX4_layOut 15 = .ok (.iconst 1, 1) := by decide +kernel
theorem dX4_layOut_16 : decode cX4_layOut 16 = .ok (.istore_n 2, 1) := by decide +kernel
theorem dX4_layOut_17 : decode cX4_layOut 17 = .ok (.iload_n 2, 1) := by decide +kernel
theorem dX4_layOut_18 : decode cX4_layOut 18 = .ok (.sipush 2401, 3) := by decide +kernel
theorem dX4_layOut_21 : decode cX4_layOut 21 = .ok (.if_icmp .gt 61, 3) := by decide +kernel
theorem dX4_layOut_24 : decode cX4_layOut 24 = .ok (.aload_n 0, 1) := by decide +kernel
theorem dX4_layOut_25 : decode cX4_layOut 25 = .ok (.iload_n 2, 1) := by decide +kernel
theorem dX4_layOut_26 : decode cX4_layOut 26 = .ok (.putfield 39, 3) := by decide +kernel
theorem dX4_layOut_29 : decode cX4_layOut 29 = .ok (.aload_n 0, 1) := by decide +kernel
theorem dX4_layOut_30 : decode cX4_layOut 30 = .ok (.getfield 21, 3) := by decide +kernel
theorem dX4_layOut_33 : decode cX4_layOut 33 = .ok (.aload_n 0, 1) := by decide +kernel
theorem dX4_layOut_34 : decode cX4_layOut 34 = .ok (.getfield 12, 3) := by decide +kernel
theorem dX4_layOut_37 : decode cX4_layOut 37 = .ok (.aload_n 0, 1) := by decide +kernel
theorem dX4_layOut_38 : decode cX4_layOut 38 = .ok (.getfield 28, 3) := by decide +kernel
theorem dX4_layOut_41 : decode cX4_layOut 41 = .ok (.getfield 59, 3) := by decide +kernel
theorem dX4_layOut_44 : decode cX4_layOut 44 = .ok (.invokevirtual 62, 3) := by decide +kernel
theorem dX4_layOut_47 : decode cX4_layOut 47 = .ok (.aload_n 0, 1) := by decide +kernel
theorem dX4_layOut_48 : decode cX4_layOut 48 = .ok (.getfield 28, 3) := by decide +kernel
theorem dX4_layOut_51 : decode cX4_layOut 51 = .ok (.aload_n 0, 1) := by decide +kernel
theorem dX4_layOut_52 : decode cX4_layOut 52 = .ok (.getfield 21, 3) := by decide +kernel
theorem dX4_layOut_55 : decode cX4_layOut 55 = .ok (.aload_n 0, 1) := by decide +kernel
theorem dX4_layOut_56 : decode cX4_layOut 56 = .ok (.getfield 12, 3) := by decide +kernel
theorem dX4_layOut_59 : decode cX4_layOut 59 = .ok (.invokevirtual 66, 3) := by decide +kernel
theorem dX4_layOut_62 : decode cX4_layOut 62 = .ok (.invokevirtual 70, 3) := by decide +kernel
theorem dX4_layOut_65 : decode cX4_layOut 65 = .ok (.aload_n 0, 1) := by decide +kernel
theorem dX4_layOut_66 : decode cX4_layOut 66 = .ok (.iload_n 2, 1) := by decide +kernel
theorem dX4_layOut_67 : decode cX4_layOut 67 = .ok (.invokevirtual 74, 3) := by decide +kernel
theorem dX4_layOut_70 : decode cX4_layOut 70 = .ok (.ifCond .ne 6, 3) := by decide +kernel
theorem dX4_layOut_73 : decode cX4_layOut 73 = .ok (.goto 9, 3) := by decide +kernel
theorem dX4_layOut_76 : decode cX4_layOut 76 = .ok (.iinc 2 1, 3) := by decide +kernel
theorem dX4_layOut_79 : decode cX4_layOut 79 = .ok (.goto (-62), 3) := by decide +kernel
theorem dX4_layOut_82 : decode cX4_layOut 82 = .ok (.aload_n 0, 1) := by decide +kernel
theorem dX4_layOut_83 : decode cX4_layOut 83 = .ok (.invokevirtual 78, 3) := by decide +kernel
theorem dX4_layOut_86 : decode cX4_layOut 86 = .ok (.return_, 1) := by decide +kernel
theorem dX4_anyWanted_0 : decode cX4_anyWanted 0 = .ok (.aload_n 0, 1) := by decide +kernel
theorem dX4_anyWanted_1 : decode cX4_anyWanted 1 = .ok (.getfield 12, 3) := by decide +kernel
theorem dX4_anyWanted_4 : decode cX4_anyWanted 4 = .ok (.invokevirtual 81, 3) := by decide +kernel
theorem dX4_anyWanted_7 : decode cX4_anyWanted 7 = .ok (.ifCond .ne 5, 3) := by decide +kernel
theorem dX4_anyWanted_10 : decode cX4_anyWanted 10 = .ok (.iconst 0, 1) := by decide +kernel
theorem dX4_anyWanted_11 : decode cX4_anyWanted 11 = .ok (.ireturn, 1) := by decide +kernel
theorem dX4_anyWanted_12 : decode cX4_anyWanted 12 = .ok (.iconst 0, 1) := by decide +kernel
theorem dX4_anyWanted_13 : decode cX4_anyWanted 13 = .ok (.istore_n 2, 1) := by decide +kernel
theorem dX4_anyWanted_14 : decode cX4_anyWanted 14 = .ok (.iload_n 2, 1) := by decide +kernel
theorem dX4_anyWanted_15 : decode cX4_anyWanted 15 = .ok (.aload_n 0, 1) := by decide +kernel
theorem dX4_anyWanted_16 : decode cX4_anyWanted 16 = .ok (.getfield 12, 3) := by decide +kernel
theorem dX4_anyWanted_19 : decode cX4_anyWanted 19 = .ok (.getfield 85, 3) := by decide +kernel
theorem dX4_anyWanted_22 : decode cX4_anyWanted 22 = .ok (.getfield 89, 3) := by decide +kernel
theorem dX4_anyWanted_25 : decode cX4_anyWanted 25 = .ok (.if_icmp .ge 32, 3) := by decide +kernel
theorem dX4_anyWanted_28 : decode cX4_anyWanted 28 = .ok (.aload_n 0, 1) := by decide +kernel
theorem dX4_anyWanted_29 : decode cX4_anyWanted 29 = .ok (.iload_n 2, 1) := by decide +kernel
theorem dX4_anyWanted_30 : decode cX4_anyWanted 30 = .ok (.invokevirtual 94, 3) := by decide +kernel
theorem dX4_anyWanted_33 : decode cX4_anyWanted 33 = .ok (.ifCond .ne 18, 3) := by decide +kernel
theorem dX4_anyWanted_36 : decode cX4_anyWanted 36 = .ok (.aload_n 0, 1) := by decide +kernel
theorem dX4_anyWanted_37 : decode cX4_anyWanted 37 = .ok (.iload_n 2, 1) := by decide +kernel
theorem dX4_anyWanted_38 : decode cX4_anyWanted 38 = .ok (.invokevirtual 97, 3) := by decide +kernel
theorem dX4_anyWanted_41 : decode cX4_anyWanted 41 = .ok (.iconst (-1), 1) := by decide +kernel
theorem dX4_anyWanted_42 : decode cX4_anyWanted 42 = .ok (.if_icmp .ne 9, 3) := by decide +kernel
theorem dX4_anyWanted_45 : decode cX4_anyWanted 45 = .ok (.aload_n 0, 1) := by decide +kernel
theorem dX4_anyWanted_46 : decode cX4_anyWanted 46 = .ok (.iload_n 2, 1) := by decide +kernel
theorem dX4_anyWanted_47 : decode cX4_anyWanted 47 = .ok (.iload_n 1, 1) := by decide +kernel
theorem dX4_anyWanted_48 : decode cX4_anyWanted 48 = .ok (.invokevirtual 101, 3) := by decide +kernel
theorem dX4_anyWanted_51 : decode cX4_anyWanted 51 = .ok (.iinc 2 1, 3) := by decide +kernel
theorem dX4_anyWanted_54 : decode cX4_anyWanted 54 = .ok (.goto (-40), 3) := by decide +kernel
theorem dX4_anyWanted_57 : decode cX4_anyWanted 57 = .ok (.aload_n 0, 1) := by decide +kernel
theorem dX4_anyWanted_58 : decode cX4_anyWanted 58 = .ok (.getfield 28, 3) := by decide +kernel
theorem dX4_anyWanted_61 : decode cX4_anyWanted 61 = .ok (.invokevirtual 105, 3) := by decide +kernel
theorem dX4_anyWanted_64 : decode cX4_anyWanted 64 = .ok (.ireturn, 1) := by decide +kernel
theorem dX4_wantThunk_0 : decode cX4_wantThunk 0 = .ok (.aload_n 0, 1) := by decide +kernel
theorem dX4_wantThunk_1 : decode cX4_wantThunk 1 = .ok (.getfield 12, 3) := by decide +kernel
theorem dX4_wantThunk_4 : decode cX4_wantThunk 4 = .ok (.getfield 85, 3) := by decide +kernel
theorem dX4_wantThunk_7 : decode cX4_wantThunk 7 = .ok (.getfield 108, 3) := by decide +kernel
theorem dX4_wantThunk_10 : decode cX4_wantThunk 10 = .ok (.iload_n 1, 1) := by decide +kernel
theorem dX4_wantThunk_11 : decode cX4_wantThunk 11 = .ok (.iaload, 1) := by decide +kernel
theorem dX4_wantThunk_12 : decode cX4_wantThunk 12 = .ok (.istore_n 3, 1) := by decide +kernel
theorem dX4_wantThunk_13 : decode cX4_wantThunk 13 = .ok (.aload_n 0, 1) := by decide +kernel
theorem dX4_wantThunk_14 : decode cX4_wantThunk 14 = .ok (.iload_n 1, 1) := by decide +kernel
theorem dX4_wantThunk_15 : decode cX4_wantThunk 15 = .ok (.invokevirtual 111, 3) := by decide +kernel
theorem dX4_wantThunk_18 : decode cX4_wantThunk 18 = .ok (.lstore 4, 2) := by decide +kernel
theorem dX4_wantThunk_20 : decode cX4_wantThunk 20 = .ok (.iconst (-1), 1) := by decide +kernel
theorem dX4_wantThunk_21 : decode cX4_wantThunk 21 = .ok (.istore 6, 2) := by decide +kernel
theorem dX4_wantThunk_23 : decode cX4_wantThunk 23 = .ok (.lconst 0, 1) := by decide +kernel
theorem dX4_wantThunk_24 : decode cX4_wantThunk 24 = .ok (.lstore 7, 2) := by decide +kernel
theorem dX4_wantThunk_26 : decode cX4_wantThunk 26 = .ok (.iconst 0, 1) := by decide +kernel
theorem dX4_wantThunk_27 : decode cX4_wantThunk 27 = .ok (.istore 9, 2) := by decide +kernel
theorem dX4_wantThunk_29 : decode cX4_wantThunk 29 = .ok (.iload 9, 2) := by decide +kernel
theorem dX4_wantThunk_31 : decode cX4_wantThunk 31 = .ok (.aload_n 0, 1) := by decide +kernel
theorem dX4_wantThunk_32 : decode cX4_wantThunk 32 = .ok (.getfield 12, 3) := by decide +kernel
theorem dX4_wantThunk_35 : decode cX4_wantThunk 35 = .ok (.getfield 115, 3) := by decide +kernel
theorem dX4_wantThunk_38 : decode cX4_wantThunk 38 = .ok (.getfield 119, 3) := by decide +kernel
theorem dX4_wantThunk_41 : decode cX4_wantThunk 41 = .ok (.if_icmp .ge 76, 3) := by decide +kernel
theorem dX4_wantThunk_44 : decode cX4_wantThunk 44 = .ok (.aload_n 0, 1) := by decide +kernel
theorem dX4_wantThunk_45 : decode cX4_wantThunk 45 = .ok (.iload 9, 2) := by decide +kernel
theorem dX4_wantThunk_47 : decode cX4_wantThunk 47 = .ok (.iload_n 1, 1) := by decide +kernel
theorem dX4_wantThunk_48 : decode cX4_wantThunk 48 = .ok (.invokevirtual 122, 3) := by decide +kernel
theorem dX4_wantThunk_51 : decode cX4_wantThunk 51 = .ok (.ifCond .ne 6, 3) := by decide +kernel
theorem dX4_wantThunk_54 : decode cX4_wantThunk 54 = .ok (.goto 57, 3) := by decide +kernel
theorem dX4_wantThunk_57 : decode cX4_wantThunk 57 = .ok (.aload_n 0, 1) := by decide +kernel
theorem dX4_wantThunk_58 : decode cX4_wantThunk 58 = .ok (.getfield 28, 3) := by decide +kernel
theorem dX4_wantThunk_61 : decode cX4_wantThunk 61 = .ok (.iload 9, 2) := by decide +kernel
theorem dX4_wantThunk_63 : decode cX4_wantThunk 63 = .ok (.iload_n 3, 1) := by decide +kernel
theorem dX4_wantThunk_64 : decode cX4_wantThunk 64 = .ok (.invokevirtual 126, 3) := by decide +kernel
theorem dX4_wantThunk_67 : decode cX4_wantThunk 67 = .ok (.ifCond .eq 4, 3) := by decide +kernel
theorem dX4_wantThunk_70 : decode cX4_wantThunk 70 = .ok (.return_, 1) := by decide +kernel
theorem dX4_wantThunk_71 : decode cX4_wantThunk 71 = .ok (.aload_n 0, 1) := by decide +kernel
theorem dX4_wantThunk_72 : decode cX4_wantThunk 72 = .ok (.getfield 21, 3) := by decide +kernel
theorem dX4_wantThunk_75 : decode cX4_wantThunk 75 = .ok (.getfield 129, 3) := by decide +kernel
theorem dX4_wantThunk_78 : decode cX4_wantThunk 78 = .ok (.iload 9, 2) := by decide +kernel
theorem dX4_wantThunk_80 : decode cX4_wantThunk 80 = .ok (.laload, 1) := by decide +kernel
theorem dX4_wantThunk_81 : decode cX4_wantThunk 81 = .ok (.lload 4, 2) := by decide +kernel
theorem dX4_wantThunk_83 : decode cX4_wantThunk 83 = .ok (.lsub, 1) := by decide +kernel
theorem dX4_wantThunk_84 : decode cX4_wantThunk 84 = .ok (.invokestatic 133, 3) := by decide +kernel
theorem dX4_wantThunk_87 : decode cX4_wantThunk 87 = .ok (.lstore 10, 2) := by decide +kernel
theorem dX4_wantThunk_89 : decode cX4_wantThunk 89 = .ok (.iload 6, 2) := by decide +kernel
theorem dX4_wantThunk_91 : decode cX4_wantThunk 91 = .ok (.iconst (-1), 1) := by decide +kernel
theorem dX4_wantThunk_92 : decode cX4_wantThunk 92 = .ok (.if_icmp .eq 11, 3) := by decide +kernel
theorem dX4_wantThunk_95 : decode cX4_wantThunk 95 = .ok (.lload 10, 2) := by decide +kernel
theorem dX4_wantThunk_97 : decode cX4_wantThunk 97 = .ok (.lload 7, 2) := by decide +kernel
theorem dX4_wantThunk_99 : decode cX4_wantThunk 99 = .ok (.lcmp, 1) := by decide +kernel
theorem dX4_wantThunk_100 : decode cX4_wantThunk 100 = .ok (.ifCond .ge 11, 3) := by decide +kernel
theorem dX4_wantThunk_103 : decode cX4_wantThunk 103 = .ok (.iload 9, 2) := by decide +kernel
theorem dX4_wantThunk_105 : decode cX4_wantThunk 105 = .ok (.istore 6, 2) := by decide +kernel
theorem dX4_wantThunk_107 : decode cX4_wantThunk 107 = .ok (.lload 10, 2) := by decide +kernel
theorem dX4_wantThunk_109 : decode cX4_wantThunk 109 = .ok (.lstore 7, 2) := by decide +kernel
theorem dX4_wantThunk_111 : decode cX4_wantThunk 111 = .ok (.iinc 9 1, 3) := by decide +kernel
theorem dX4_wantThunk_114 : decode cX4_wantThunk 114 = .ok (.goto (-85), 3) := by decide +kernel
theorem dX4_wantThunk_117 : decode cX4_wantThunk 117 = .ok (.iload 6, 2) := by decide +kernel
theorem dX4_wantThunk_119 : decode cX4_wantThunk 119 = .ok (.iconst (-1), 1) := by decide +kernel
theorem dX4_wantThunk_120 : decode cX4_wantThunk 120 = .ok (.if_icmp .eq 15, 3) := by decide +kernel
theorem dX4_wantThunk_123 : decode cX4_wantThunk 123 = .ok (.aload_n 0, 1) := by decide +kernel
theorem dX4_wantThunk_124 : decode cX4_wantThunk 124 = .ok (.getfield 28, 3) := by decide +kernel
theorem dX4_wantThunk_127 : decode cX4_wantThunk 127 = .ok (.iload 6, 2) := by decide +kernel
theorem dX4_wantThunk_129 : decode cX4_wantThunk 129 = .ok (.iload_n 3, 1) := by decide +kernel
theorem dX4_wantThunk_130 : decode cX4_wantThunk 130 = .ok (.iload_n 2, 1) := by decide +kernel
theorem dX4_wantThunk_131 : decode cX4_wantThunk 131 = .ok (.iload_n 1, 1) := by decide +kernel
theorem dX4_wantThunk_132 : decode cX4_wantThunk 132 = .ok (.invokevirtual 139, 3) := by decide +kernel
theorem dX4_wantThunk_135 : decode cX4_wantThunk 135 = .ok (.return_, 1) := by decide +kernel
theorem dX4_couldHelp_0 : decode cX4_couldHelp 0 = .ok (.aload_n 0, 1) := by decide +kernel
theorem dX4_couldHelp_1 : decode cX4_couldHelp 1 = .ok (.getfield 12, 3) := by decide +kernel
theorem dX4_couldHelp_4 : decode cX4_couldHelp 4 = .ok (.getfield 85, 3) := by decide +kernel
theorem dX4_couldHelp_7 : decode cX4_couldHelp 7 = .ok (.getfield 108, 3) := by decide +kernel
theorem dX4_couldHelp_10 : decode cX4_couldHelp 10 = .ok (.iload_n 2, 1) := by decide +kernel
theorem dX4_couldHelp_11 : decode cX4_couldHelp 11 = .ok (.iaload, 1) := by decide +kernel
theorem dX4_couldHelp_12 : decode cX4_couldHelp 12 = .ok (.istore_n 3, 1) := by decide +kernel
theorem dX4_couldHelp_13 : decode cX4_couldHelp 13 = .ok (.aload_n 0, 1) := by decide +kernel
theorem dX4_couldHelp_14 : decode cX4_couldHelp 14 = .ok (.getfield 12, 3) := by decide +kernel
theorem dX4_couldHelp_17 : decode cX4_couldHelp 17 = .ok (.getfield 115, 3) := by decide +kernel
theorem dX4_couldHelp_20 : decode cX4_couldHelp 20 = .ok (.getfield 143, 3) := by decide +kernel
theorem dX4_couldHelp_23 : decode cX4_couldHelp 23 = .ok (.iload_n 1, 1) := by decide +kernel
theorem dX4_couldHelp_24 : decode cX4_couldHelp 24 = .ok (.baload, 1) := by decide +kernel
theorem dX4_couldHelp_25 : decode cX4_couldHelp 25 = .ok (.ifCond .eq 15, 3) := by decide +kernel
theorem dX4_couldHelp_28 : decode cX4_couldHelp 28 = .ok (.aload_n 0, 1) := by decide +kernel
theorem dX4_couldHelp_29 : decode cX4_couldHelp 29 = .ok (.getfield 28, 3) := by decide +kernel
theorem dX4_couldHelp_32 : decode cX4_couldHelp 32 = .ok (.iload_n 1, 1) := by decide +kernel
theorem dX4_couldHelp_33 : decode cX4_couldHelp 33 = .ok (.iload_n 3, 1) := by decide +kernel
theorem dX4_couldHelp_34 : decode cX4_couldHelp 34 = .ok (.invokevirtual 147, 3) := by decide +kernel
theorem dX4_couldHelp_37 : decode cX4_couldHelp 37 = .ok (.ifCond .eq 5, 3) := by decide +kernel
theorem dX4_couldHelp_40 : decode cX4_couldHelp 40 = .ok (.iconst 0, 1) := by decide +kernel
theorem dX4_couldHelp_41 : decode cX4_couldHelp 41 = .ok (.ireturn, 1) := by decide +kernel
theorem dX4_couldHelp_42 : decode cX4_couldHelp 42 = .ok (.aload_n 0, 1) := by decide +kernel
theorem dX4_couldHelp_43 : decode cX4_couldHelp 43 = .ok (.getfield 21, 3) := by decide +kernel
theorem dX4_couldHelp_46 : decode cX4_couldHelp 46 = .ok (.getfield 129, 3) := by decide +kernel
theorem dX4_couldHelp_49 : decode cX4_couldHelp 49 = .ok (.iload_n 1, 1) := by decide +kernel
theorem dX4_couldHelp_50 : decode cX4_couldHelp 50 = .ok (.laload, 1) := by decide +kernel
theorem dX4_couldHelp_51 : decode cX4_couldHelp 51 = .ok (.lstore 4, 2) := by decide +kernel
theorem dX4_couldHelp_53 : decode cX4_couldHelp 53 = .ok (.aload_n 0, 1) := by decide +kernel
theorem dX4_couldHelp_54 : decode cX4_couldHelp 54 = .ok (.getfield 12, 3) := by decide +kernel
theorem dX4_couldHelp_57 : decode cX4_couldHelp 57 = .ok (.getfield 150, 3) := by decide +kernel
theorem dX4_couldHelp_60 : decode cX4_couldHelp 60 = .ok (.aload_n 0, 1) := by decide +kernel
theorem dX4_couldHelp_61 : decode cX4_couldHelp 61 = .ok (.getfield 12, 3) := by decide +kernel
theorem dX4_couldHelp_64 : decode cX4_couldHelp 64 = .ok (.getfield 85, 3) := by decide +kernel
theorem dX4_couldHelp_67 : decode cX4_couldHelp 67 = .ok (.getfield 154, 3) := by decide +kernel
theorem dX4_couldHelp_70 : decode cX4_couldHelp 70 = .ok (.iload_n 2, 1) := by decide +kernel
theorem dX4_couldHelp_71 : decode cX4_couldHelp 71 = .ok (.iaload, 1) := by decide +kernel
theorem dX4_couldHelp_72 : decode cX4_couldHelp 72 = .ok (.aload_n 0, 1) := by decide +kernel
theorem dX4_couldHelp_73 : decode cX4_couldHelp 73 = .ok (.iload_n 2, 1) := by decide +kernel
theorem dX4_couldHelp_74 : decode cX4_couldHelp 74 = .ok (.invokevirtual 111, 3) := by decide +kernel
theorem dX4_couldHelp_77 : decode cX4_couldHelp 77 = .ok (.lload 4, 2) := by decide +kernel
theorem dX4_couldHelp_79 : decode cX4_couldHelp 79 = .ok (.invokevirtual 157, 3) := by decide +kernel
theorem dX4_couldHelp_82 : decode cX4_couldHelp 82 = .ok (.ifCond .eq 34, 3) := by decide +kernel
theorem dX4_couldHelp_85 : decode cX4_couldHelp 85 = .ok (.aload_n 0, 1) := by decide +kernel
theorem dX4_couldHelp_86 : decode cX4_couldHelp 86 = .ok (.getfield 12, 3) := by decide +kernel
theorem dX4_couldHelp_89 : decode cX4_couldHelp 89 = .ok (.getfield 150, 3) := by decide +kernel
theorem dX4_couldHelp_92 : decode cX4_couldHelp 92 = .ok (.aload_n 0, 1) := by decide +kernel
theorem dX4_couldHelp_93 : decode cX4_couldHelp 93 = .ok (.getfield 12, 3) := by decide +kernel
theorem dX4_couldHelp_96 : decode cX4_couldHelp 96 = .ok (.getfield 163, 3) := by decide +kernel
theorem dX4_couldHelp_99 : decode cX4_couldHelp 99 = .ok (.lload 4, 2) := by decide +kernel
theorem dX4_couldHelp_101 : decode cX4_couldHelp 101 = .ok (.aload_n 0, 1) := by decide +kernel
theorem dX4_couldHelp_102 : decode cX4_couldHelp 102 = .ok (.iload_n 3, 1) := by decide +kernel
theorem dX4_couldHelp_103 : decode cX4_couldHelp 103 = .ok (.invokevirtual 166, 3) := by decide +kernel
theorem dX4_couldHelp_106 : decode cX4_couldHelp 106 = .ok (.invokevirtual 157, 3) := by decide +kernel
theorem dX4_couldHelp_109 : decode cX4_couldHelp 109 = .ok (.ifCond .eq 7, 3) := by decide +kernel
theorem dX4_couldHelp_112 : decode cX4_couldHelp 112 = .ok (.iconst 1, 1) := by decide +kernel
theorem dX4_couldHelp_113 : decode cX4_couldHelp 113 = .ok (.goto 4, 3) := by decide +kernel
theorem dX4_couldHelp_116 : decode cX4_couldHelp 116 = .ok (.iconst 0, 1) := by decide +kernel
theorem dX4_couldHelp_117 : decode cX4_couldHelp 117 = .ok (.ireturn, 1) := by decide +kernel
theorem dX4_isDirect_0 : decode cX4_isDirect 0 = .ok (.aload_n 0, 1) := by decide +kernel
theorem dX4_isDirect_1 : decode cX4_isDirect 1 = .ok (.aload_n 0, 1) := by decide +kernel
theorem dX4_isDirect_2 : decode cX4_isDirect 2 = .ok (.getfield 12, 3) := by decide +kernel
theorem dX4_isDirect_5 : decode cX4_isDirect 5 = .ok (.getfield 85, 3) := by decide +kernel
theorem dX4_isDirect_8 : decode cX4_isDirect 8 = .ok (.getfield 108, 3) := by decide +kernel
theorem dX4_isDirect_11 : decode cX4_isDirect 11 = .ok (.iload_n 1, 1) := by decide +kernel
theorem dX4_isDirect_12 : decode cX4_isDirect 12 = .ok (.iaload, 1) := by decide +kernel
theorem dX4_isDirect_13 : decode cX4_isDirect 13 = .ok (.invokevirtual 166, 3) := by decide +kernel
theorem dX4_isDirect_16 : decode cX4_isDirect 16 = .ok (.lstore_n 2, 1) := by decide +kernel
theorem dX4_isDirect_17 : decode cX4_isDirect 17 = .ok (.aload_n 0, 1) := by decide +kernel
theorem dX4_isDirect_18 : decode cX4_isDirect 18 = .ok (.getfield 12, 3) := by decide +kernel
theorem dX4_isDirect_21 : decode cX4_isDirect 21 = .ok (.getfield 150, 3) := by decide +kernel
theorem dX4_isDirect_24 : decode cX4_isDirect 24 = .ok (.aload_n 0, 1) := by decide +kernel
theorem dX4_isDirect_25 : decode cX4_isDirect 25 = .ok (.getfield 12, 3) := by decide +kernel
theorem dX4_isDirect_28 : decode cX4_isDirect 28 = .ok (.getfield 85, 3) := by decide +kernel
theorem dX4_isDirect_31 : decode cX4_isDirect 31 = .ok (.getfield 154, 3) := by decide +kernel
theorem dX4_isDirect_34 : decode cX4_isDirect 34 = .ok (.iload_n 1, 1) := by decide +kernel
theorem dX4_isDirect_35 : decode cX4_isDirect 35 = .ok (.iaload, 1) := by decide +kernel
theorem dX4_isDirect_36 : decode cX4_isDirect 36 = .ok (.aload_n 0, 1) := by decide +kernel
theorem dX4_isDirect_37 : decode cX4_isDirect 37 = .ok (.iload_n 1, 1) := by decide +kernel
theorem dX4_isDirect_38 : decode cX4_isDirect 38 = .ok (.invokevirtual 111, 3) := by decide +kernel
theorem dX4_isDirect_41 : decode cX4_isDirect 41 = .ok (.lload_n 2, 1) := by decide +kernel
theorem dX4_isDirect_42 : decode cX4_isDirect 42 = .ok (.invokevirtual 157, 3) := by decide +kernel
theorem dX4_isDirect_45 : decode cX4_isDirect 45 = .ok (.ireturn, 1) := by decide +kernel
theorem dX4_nearestThunk_0 : decode cX4_nearestThunk 0 = .ok (.aload_n 0, 1) := by decide +kernel
theorem dX4_nearestThunk_1 : decode cX4_nearestThunk 1 = .ok (.getfield 12, 3) := by decide +kernel
theorem dX4_nearestThunk_4 : decode cX4_nearestThunk 4 = .ok (.getfield 85, 3) := by decide +kernel
theorem dX4_nearestThunk_7 : decode cX4_nearestThunk 7 = .ok (.getfield 108, 3) := by decide +kernel
theorem dX4_nearestThunk_10 : decode cX4_nearestThunk 10 = .ok (.iload_n 1, 1) := by decide +kernel
theorem dX4_nearestThunk_11 : decode cX4_nearestThunk 11 = .ok (.iaload, 1) := by decide +kernel
theorem dX4_nearestThunk_12 : decode cX4_nearestThunk 12 = .ok (.istore_n 2, 1) := by decide +kernel
theorem dX4_nearestThunk_13 : decode cX4_nearestThunk 13 = .ok (.aload_n 0, 1) := by decide +kernel
theorem dX4_nearestThunk_14 : decode cX4_nearestThunk 14 = .ok (.iload_n 1, 1) := by decide +kernel
theorem dX4_nearestThunk_15 : decode cX4_nearestThunk 15 = .ok (.invokevirtual 111, 3) := by decide +kernel
theorem dX4_nearestThunk_18 : decode cX4_nearestThunk 18 = .ok (.lstore_n 3, 1) := by decide +kernel
theorem dX4_nearestThunk_19 : decode cX4_nearestThunk 19 = .ok (.iconst (-1), 1) := by decide +kernel
theorem dX4_nearestThunk_20 : decode cX4_nearestThunk 20 = .ok (.istore 5, 2) := by decide +kernel
theorem dX4_nearestThunk_22 : decode cX4_nearestThunk 22 = .ok (.lconst 0, 1) := by decide +kernel
theorem dX4_nearestThunk_23 : decode cX4_nearestThunk 23 = .ok (.lstore 6, 2) := by decide +kernel
theorem dX4_nearestThunk_25 : decode cX4_nearestThunk 25 = .ok (.iconst 0, 1) := by decide +kernel
theorem dX4_nearestThunk_26 : decode cX4_nearestThunk 26 = .ok (.istore 8, 2) := by decide +kernel
theorem dX4_nearestThunk_28 : decode cX4_nearestThunk 28 = .ok (.iload 8, 2) := by decide +kernel
theorem dX4_nearestThunk_30 : decode cX4_nearestThunk 30 = .ok (.aload_n 0, 1) := by decide +kernel
theorem dX4_nearestThunk_31 : decode cX4_nearestThunk 31 = .ok (.getfield 12, 3) := by decide +kernel
theorem dX4_nearestThunk_34 : decode cX4_nearestThunk 34 = .ok (.getfield 115, 3) := by decide +kernel
theorem dX4_nearestThunk_37 : decode cX4_nearestThunk 37 = .ok (.getfield 119, 3) := by decide +kernel
theorem dX4_nearestThunk_40 : decode cX4_nearestThunk 40 = .ok (.if_icmp .ge 85, 3) := by decide +kernel
theorem dX4_nearestThunk_43 : decode cX4_nearestThunk 43 = .ok (.aload_n 0, 1) := by decide +kernel
theorem dX4_nearestThunk_44 : decode cX4_nearestThunk 44 = .ok (.getfield 28, 3) := by decide +kernel
theorem dX4_nearestThunk_47 : decode cX4_nearestThunk 47 = .ok (.iload 8, 2) := by decide +kernel
theorem dX4_nearestThunk_49 : decode cX4_nearestThunk 49 = .ok (.iload_n 2, 1) := by decide +kernel
theorem dX4_nearestThunk_50 : decode cX4_nearestThunk 50 = .ok (.invokevirtual 169, 3) := by decide +kernel
theorem dX4_nearestThunk_53 : decode cX4_nearestThunk 53 = .ok (.istore 9, 2) := by decide +kernel
theorem dX4_nearestThunk_55 : decode cX4_nearestThunk 55 = .ok (.aload_n 0, 1) := by decide +kernel
theorem dX4_nearestThunk_56 : decode cX4_nearestThunk 56 = .ok (.getfield 28, 3) := by decide +kernel
theorem dX4_nearestThunk_59 : decode cX4_nearestThunk 59 = .ok (.iload 9, 2) := by decide +kernel
theorem dX4_nearestThunk_61 : decode cX4_nearestThunk 61 = .ok (.invokevirtual 173, 3) := by decide +kernel
theorem dX4_nearestThunk_64 : decode cX4_nearestThunk 64 = .ok (.ifCond .eq 55, 3) := by decide +kernel
theorem dX4_nearestThunk_67 : decode cX4_nearestThunk 67 = .ok (.aload_n 0, 1) := by decide +kernel
theorem dX4_nearestThunk_68 : decode cX4_nearestThunk 68 = .ok (.iload 9, 2) := by decide +kernel
theorem dX4_nearestThunk_70 : decode cX4_nearestThunk 70 = .ok (.iload_n 1, 1) := by decide +kernel
theorem dX4_nearestThunk_71 : decode cX4_nearestThunk 71 = .ok (.invokevirtual 176, 3) := by decide +kernel
theorem dX4_nearestThunk_74 : decode cX4_nearestThunk 74 = .ok (.ifCond .ne 6, 3) := by decide +kernel
theorem dX4_nearestThunk_77 : decode cX4_nearestThunk 77 = .ok (.goto 42, 3) := by decide +kernel
theorem dX4_nearestThunk_80 : decode cX4_nearestThunk 80 = .ok (.aload_n 0, 1) := by decide +kernel
theorem dX4_nearestThunk_81 : decode cX4_nearestThunk 81 = .ok (.getfield 28, 3) := by decide +kernel
theorem dX4_nearestThunk_84 : decode cX4_nearestThunk 84 = .ok (.getfield 179, 3) := by decide +kernel
theorem dX4_nearestThunk_87 : decode cX4_nearestThunk 87 = .ok (.iload 9, 2) := by decide +kernel
theorem dX4_nearestThunk_89 : decode cX4_nearestThunk 89 = .ok (.laload, 1) := by decide +kernel
theorem dX4_nearestThunk_90 : decode cX4_nearestThunk 90 = .ok (.lload_n 3, 1) := by decide +kernel
theorem dX4_nearestThunk_91 : decode cX4_nearestThunk 91 = .ok (.lsub, 1) := by decide +kernel
theorem dX4_nearestThunk_92 : decode cX4_nearestThunk 92 = .ok (.invokestatic 133, 3) := by decide +kernel
theorem dX4_nearestThunk_95 : decode cX4_nearestThunk 95 = .ok (.lstore 10, 2) := by decide +kernel
theorem dX4_nearestThunk_97 : decode cX4_nearestThunk 97 = .ok (.iload 5, 2) := by decide +kernel
theorem dX4_nearestThunk_99 : decode cX4_nearestThunk 99 = .ok (.iconst (-1), 1) := by decide +kernel
theorem dX4_nearestThunk_100 : decode cX4_nearestThunk 100 = .ok (.if_icmp .eq 11, 3) := by decide +kernel
theorem dX4_nearestThunk_103 : decode cX4_nearestThunk 103 = .ok (.lload 10, 2) := by decide +kernel
theorem dX4_nearestThunk_105 : decode cX4_nearestThunk 105 = .ok (.lload 6, 2) := by decide +kernel
theorem dX4_nearestThunk_107 : decode cX4_nearestThunk 107 = .ok (.lcmp, 1) := by decide +kernel
theorem dX4_nearestThunk_108 : decode cX4_nearestThunk 108 = .ok (.ifCond .ge 11, 3) := by decide +kernel
theorem dX4_nearestThunk_111 : decode cX4_nearestThunk 111 = .ok (.iload 9, 2) := by decide +kernel
theorem dX4_nearestThunk_113 : decode cX4_nearestThunk 113 = .ok (.istore 5, 2) := by decide +kernel
theorem dX4_nearestThunk_115 : decode cX4_nearestThunk 115 = .ok (.lload 10, 2) := by decide +kernel
theorem dX4_nearestThunk_117 : decode cX4_nearestThunk 117 = .ok (.lstore 6, 2) := by decide +kernel
theorem dX4_nearestThunk_119 : decode cX4_nearestThunk 119 = .ok (.iinc 8 1, 3) := by decide +kernel
theorem dX4_nearestThunk_122 : decode cX4_nearestThunk 122 = .ok (.goto (-94), 3) := by decide +kernel
theorem dX4_nearestThunk_125 : decode cX4_nearestThunk 125 = .ok (.iload 5, 2) := by decide +kernel
theorem dX4_nearestThunk_127 : decode cX4_nearestThunk 127 = .ok (.ireturn, 1) := by decide +kernel
theorem dX4_doesHelp_0 : decode cX4_doesHelp 0 = .ok (.aload_n 0, 1) := by decide +kernel
theorem dX4_doesHelp_1 : decode cX4_doesHelp 1 = .ok (.getfield 28, 3) := by decide +kernel
theorem dX4_doesHelp_4 : decode cX4_doesHelp 4 = .ok (.getfield 179, 3) := by decide +kernel
theorem dX4_doesHelp_7 : decode cX4_doesHelp 7 = .ok (.iload_n 1, 1) := by decide +kernel
theorem dX4_doesHelp_8 : decode cX4_doesHelp 8 = .ok (.laload, 1) := by decide +kernel
theorem dX4_doesHelp_9 : decode cX4_doesHelp 9 = .ok (.lstore_n 3, 1) := by decide +kernel
theorem dX4_doesHelp_10 : decode cX4_doesHelp 10 = .ok (.aload_n 0, 1) := by decide +kernel
theorem dX4_doesHelp_11 : decode cX4_doesHelp 11 = .ok (.getfield 12, 3) := by decide +kernel
theorem dX4_doesHelp_14 : decode cX4_doesHelp 14 = .ok (.getfield 150, 3) := by decide +kernel
theorem dX4_doesHelp_17 : decode cX4_doesHelp 17 = .ok (.aload_n 0, 1) := by decide +kernel
theorem dX4_doesHelp_18 : decode cX4_doesHelp 18 = .ok (.getfield 12, 3) := by decide +kernel
theorem dX4_doesHelp_21 : decode cX4_doesHelp 21 = .ok (.getfield 85, 3) := by decide +kernel
theorem dX4_doesHelp_24 : decode cX4_doesHelp 24 = .ok (.getfield 154, 3) := by decide +kernel
theorem dX4_doesHelp_27 : decode cX4_doesHelp 27 = .ok (.iload_n 2, 1) := by decide +kernel
theorem dX4_doesHelp_28 : decode cX4_doesHelp 28 = .ok (.iaload, 1) := by decide +kernel
theorem dX4_doesHelp_29 : decode cX4_doesHelp 29 = .ok (.aload_n 0, 1) := by decide +kernel
theorem dX4_doesHelp_30 : decode cX4_doesHelp 30 = .ok (.iload_n 2, 1) := by decide +kernel
theorem dX4_doesHelp_31 : decode cX4_doesHelp 31 = .ok (.invokevirtual 111, 3) := by decide +kernel
theorem dX4_doesHelp_34 : decode cX4_doesHelp 34 = .ok (.lload_n 3, 1) := by decide +kernel
theorem dX4_doesHelp_35 : decode cX4_doesHelp 35 = .ok (.invokevirtual 157, 3) := by decide +kernel
theorem dX4_doesHelp_38 : decode cX4_doesHelp 38 = .ok (.ifCond .eq 41, 3) := by decide +kernel
theorem dX4_doesHelp_41 : decode cX4_doesHelp 41 = .ok (.aload_n 0, 1) := by decide +kernel
theorem dX4_doesHelp_42 : decode cX4_doesHelp 42 = .ok (.getfield 12, 3) := by decide +kernel
theorem dX4_doesHelp_45 : decode cX4_doesHelp 45 = .ok (.getfield 150, 3) := by decide +kernel
theorem dX4_doesHelp_48 : decode cX4_doesHelp 48 = .ok (.aload_n 0, 1) := by decide +kernel
theorem dX4_doesHelp_49 : decode cX4_doesHelp 49 = .ok (.getfield 12, 3) := by decide +kernel
theorem dX4_doesHelp_52 : decode cX4_doesHelp 52 = .ok (.getfield 163, 3) := by decide +kernel
theorem dX4_doesHelp_55 : decode cX4_doesHelp 55 = .ok (.lload_n 3, 1) := by decide +kernel
theorem dX4_doesHelp_56 : decode cX4_doesHelp 56 = .ok (.aload_n 0, 1) := by decide +kernel
theorem dX4_doesHelp_57 : decode cX4_doesHelp 57 = .ok (.aload_n 0, 1) := by decide +kernel
theorem dX4_doesHelp_58 : decode cX4_doesHelp 58 = .ok (.getfield 28, 3) := by decide +kernel
theorem dX4_doesHelp_61 : decode cX4_doesHelp 61 = .ok (.getfield 182, 3) := by decide +kernel
theorem dX4_doesHelp_64 : decode cX4_doesHelp 64 = .ok (.iload_n 1, 1) := by decide +kernel
theorem dX4_doesHelp_65 : decode cX4_doesHelp 65 = .ok (.iaload, 1) := by decide +kernel
theorem dX4_doesHelp_66 : decode cX4_doesHelp 66 = .ok (.invokevirtual 166, 3) := by decide +kernel
theorem dX4_doesHelp_69 : decode cX4_doesHelp 69 = .ok (.invokevirtual 157, 3) := by decide +kernel
theorem dX4_doesHelp_72 : decode cX4_doesHelp 72 = .ok (.ifCond .eq 7, 3) := by decide +kernel
theorem dX4_doesHelp_75 : decode cX4_doesHelp 75 = .ok (.iconst 1, 1) := by decide +kernel
theorem dX4_doesHelp_76 : decode cX4_doesHelp 76 = .ok (.goto 4, 3) := by decide +kernel
theorem dX4_doesHelp_79 : decode cX4_doesHelp 79 = .ok (.iconst 0, 1) := by decide +kernel
theorem dX4_doesHelp_80 : decode cX4_doesHelp 80 = .ok (.ireturn, 1) := by decide +kernel
theorem dX4_routeAll_0 : decode cX4_routeAll 0 = .ok (.aload_n 0, 1) := by decide +kernel
theorem dX4_routeAll_1 : decode cX4_routeAll 1 = .ok (.iconst 0, 1) := by decide +kernel
theorem dX4_routeAll_2 : decode cX4_routeAll 2 = .ok (.putfield 43, 3) := by decide +kernel
theorem dX4_routeAll_5 : decode cX4_routeAll 5 = .ok (.aload_n 0, 1) := by decide +kernel
theorem dX4_routeAll_6 : decode cX4_routeAll 6 = .ok (.iconst 0, 1) := by decide +kernel
theorem dX4_routeAll_7 : decode cX4_routeAll 7 = .ok (.putfield 46, 3) := by decide +kernel
theorem dX4_routeAll_10 : decode cX4_routeAll 10 = .ok (.aload_n 0, 1) := by decide +kernel
theorem dX4_routeAll_11 : decode cX4_routeAll 11 = .ok (.iconst 0, 1) := by decide +kernel
theorem dX4_routeAll_12 : decode cX4_routeAll 12 = .ok (.putfield 49, 3) := by decide +kernel
theorem dX4_routeAll_15 : decode cX4_routeAll 15 = .ok (.iconst 0, 1) := by decide +kernel
theorem dX4_routeAll_16 : decode cX4_routeAll 16 = .ok (.istore_n 1, 1) := by decide +kernel
theorem dX4_routeAll_17 : decode cX4_routeAll 17 = .ok (.iload_n 1, 1) := by decide +kernel
theorem dX4_routeAll_18 : decode cX4_routeAll 18 = .ok (.aload_n 0, 1) := by decide +kernel
theorem dX4_routeAll_19 : decode cX4_routeAll 19 = .ok (.getfield 12, 3) := by decide +kernel
theorem dX4_routeAll_22 : decode cX4_routeAll 22 = .ok (.getfield 85, 3) := by decide +kernel
theorem dX4_routeAll_25 : decode cX4_routeAll 25 = .ok (.getfield 89, 3) := by decide +kernel
theorem dX4_routeAll_28 : decode cX4_routeAll 28 = .ok (.if_icmp .ge 49, 3) := by decide +kernel
theorem dX4_routeAll_31 : decode cX4_routeAll 31 = .ok (.aload_n 0, 1) := by decide +kernel
theorem dX4_routeAll_32 : decode cX4_routeAll 32 = .ok (.getfield 36, 3) := by decide +kernel
theorem dX4_routeAll_35 : decode cX4_routeAll 35 = .ok (.iload_n 1, 1) := by decide +kernel
theorem dX4_routeAll_36 : decode cX4_routeAll 36 = .ok (.iconst (-1), 1) := by decide +kernel
theorem dX4_routeAll_37 : decode cX4_routeAll 37 = .ok (.iastore, 1) := by decide +kernel
theorem dX4_routeAll_38 : decode cX4_routeAll 38 = .ok (.aload_n 0, 1) := by decide +kernel
theorem dX4_routeAll_39 : decode cX4_routeAll 39 = .ok (.iload_n 1, 1) := by decide +kernel
theorem dX4_routeAll_40 : decode cX4_routeAll 40 = .ok (.invokevirtual 94, 3) := by decide +kernel
theorem dX4_routeAll_43 : decode cX4_routeAll 43 = .ok (.ifCond .eq 23, 3) := by decide +kernel
theorem dX4_routeAll_46 : decode cX4_routeAll 46 = .ok (.aload_n 0, 1) := by decide +kernel
theorem dX4_routeAll_47 : decode cX4_routeAll 47 = .ok (.getfield 32, 3) := by decide +kernel
theorem dX4_routeAll_50 : decode cX4_routeAll 50 = .ok (.iload_n 1, 1) := by decide +kernel
theorem dX4_routeAll_51 : decode cX4_routeAll 51 = .ok (.iconst 0, 1) := by decide +kernel
theorem dX4_routeAll_52 : decode cX4_routeAll 52 = .ok (.iastore, 1) := by decide +kernel
theorem dX4_routeAll_53 : decode cX4_routeAll 53 = .ok (.aload_n 0, 1) := by decide +kernel
theorem dX4_routeAll_54 : decode cX4_routeAll 54 = .ok (.dup, 1) := by decide +kernel
theorem dX4_routeAll_55 : decode cX4_routeAll 55 = .ok (.getfield 43, 3) := by decide +kernel
theorem dX4_routeAll_58 : decode cX4_routeAll 58 = .ok (.iconst 1, 1) := by decide +kernel
theorem dX4_routeAll_59 : decode cX4_routeAll 59 = .ok (.iadd, 1) := by decide +kernel
theorem dX4_routeAll_60 : decode cX4_routeAll 60 = .ok (.putfield 43, 3) := by decide +kernel
theorem dX4_routeAll_63 : decode cX4_routeAll 63 = .ok (.goto 8, 3) := by decide +kernel
theorem dX4_routeAll_66 : decode cX4_routeAll 66 = .ok (.aload_n 0, 1) := by decide +kernel
theorem dX4_routeAll_67 : decode cX4_routeAll 67 = .ok (.iload_n 1, 1) := by decide +kernel
theorem dX4_routeAll_68 : decode cX4_routeAll 68 = .ok (.invokevirtual 183, 3) := by decide +kernel
theorem dX4_routeAll_71 : decode cX4_routeAll 71 = .ok (.iinc 1 1, 3) := by decide +kernel
theorem dX4_routeAll_74 : decode cX4_routeAll 74 = .ok (.goto (-57), 3) := by decide +kernel
theorem dX4_routeAll_77 : decode cX4_routeAll 77 = .ok (.return_, 1) := by decide +kernel
theorem dX4_routeByThunk_0 : decode cX4_routeByThunk 0 = .ok (.aload_n 0, 1) := by decide +kernel
theorem dX4_routeByThunk_1 : decode cX4_routeByThunk 1 = .ok (.iload_n 1, 1) := by decide +kernel
theorem dX4_routeByThunk_2 : decode cX4_routeByThunk 2 = .ok (.invokevirtual 97, 3) := by decide +kernel
theorem dX4_routeByThunk_5 : decode cX4_routeByThunk 5 = .ok (.istore_n 2, 1) := by decide +kernel
theorem dX4_routeByThunk_6 : decode cX4_routeByThunk 6 = .ok (.aload_n 0, 1) := by decide +kernel
theorem dX4_routeByThunk_7 : decode cX4_routeByThunk 7 = .ok (.getfield 36, 3) := by decide +kernel
theorem dX4_routeByThunk_10 : decode cX4_routeByThunk 10 = .ok (.iload_n 1, 1) := by decide +kernel
theorem dX4_routeByThunk_11 : decode cX4_routeByThunk 11 = .ok (.iload_n 2, 1) := by decide +kernel
theorem dX4_routeByThunk_12 : decode cX4_routeByThunk 12 = .ok (.iastore, 1) := by decide +kernel
theorem dX4_routeByThunk_13 : decode cX4_routeByThunk 13 = .ok (.aload_n 0, 1) := by decide +kernel
theorem dX4_routeByThunk_14 : decode cX4_routeByThunk 14 = .ok (.getfield 28, 3) := by decide +kernel
theorem dX4_routeByThunk_17 : decode cX4_routeByThunk 17 = .ok (.iload_n 2, 1) := by decide +kernel
theorem dX4_routeByThunk_18 : decode cX4_routeByThunk 18 = .ok (.invokevirtual 173, 3) := by decide +kernel
theorem dX4_routeByThunk_21 : decode cX4_routeByThunk 21 = .ok (.ifCond .ne 21, 3) := by decide +kernel
theorem dX4_routeByThunk_24 : decode cX4_routeByThunk 24 = .ok (.aload_n 0, 1) := by decide +kernel
theorem dX4_routeByThunk_25 : decode cX4_routeByThunk 25 = .ok (.getfield 32, 3) := by decide +kernel
theorem dX4_routeByThunk_28 : decode cX4_routeByThunk 28 = .ok (.iload_n 1, 1) := by decide +kernel
theorem dX4_routeByThunk_29 : decode cX4_routeByThunk 29 = .ok (.iconst 2, 1) := by decide +kernel
theorem dX4_routeByThunk_30 : decode cX4_routeByThunk 30 = .ok (.iastore, 1) := by decide +kernel
theorem dX4_routeByThunk_31 : decode cX4_routeByThunk 31 = .ok (.aload_n 0, 1) := by decide +kernel
theorem dX4_routeByThunk_32 : decode cX4_routeByThunk 32 = .ok (.dup, 1) := by decide +kernel
theorem dX4_routeByThunk_33 : decode cX4_routeByThunk 33 = .ok (.getfield 49, 3) := by decide +kernel
theorem dX4_routeByThunk_36 : decode cX4_routeByThunk 36 = .ok (.iconst 1, 1) := by decide +kernel
theorem dX4_routeByThunk_37 : decode cX4_routeByThunk 37 = .ok (.iadd, 1) := by decide +kernel
theorem dX4_routeByThunk_38 : decode cX4_routeByThunk 38 = .ok (.putfield 49, 3) := by decide +kernel
theorem dX4_routeByThunk_41 : decode cX4_routeByThunk 41 = .ok (.return_, 1) := by decide +kernel
theorem dX4_routeByThunk_42 : decode cX4_routeByThunk 42 = .ok (.aload_n 0, 1) := by decide +kernel
theorem dX4_routeByThunk_43 : decode cX4_routeByThunk 43 = .ok (.getfield 32, 3) := by decide +kernel
theorem dX4_routeByThunk_46 : decode cX4_routeByThunk 46 = .ok (.iload_n 1, 1) := by decide +kernel
theorem dX4_routeByThunk_47 : decode cX4_routeByThunk 47 = .ok (.iconst 1, 1) := by decide +kernel
theorem dX4_routeByThunk_48 : decode cX4_routeByThunk 48 = .ok (.iastore, 1) := by decide +kernel
theorem dX4_routeByThunk_49 : decode cX4_routeByThunk 49 = .ok (.aload_n 0, 1) := by decide +kernel
theorem dX4_routeByThunk_50 : decode cX4_routeByThunk 50 = .ok (.dup, 1) := by decide +kernel
theorem dX4_routeByThunk_51 : decode cX4_routeByThunk 51 = .ok (.getfield 46, 3) := by decide +kernel
theorem dX4_routeByThunk_54 : decode cX4_routeByThunk 54 = .ok (.iconst 1, 1) := by decide +kernel
theorem dX4_routeByThunk_55 : decode cX4_routeByThunk 55 = .ok (.iadd, 1) := by decide +kernel
theorem dX4_routeByThunk_56 : decode cX4_routeByThunk 56 = .ok (.putfield 46, 3) := by decide +kernel
theorem dX4_routeByThunk_59 : decode cX4_routeByThunk 59 = .ok (.aload_n 0, 1) := by decide +kernel
theorem dX4_routeByThunk_60 : decode cX4_routeByThunk 60 = .ok (.getfield 28, 3) := by decide +kernel
theorem dX4_routeByThunk_63 : decode cX4_routeByThunk 63 = .ok (.getfield 187, 3) := by decide +kernel
theorem dX4_routeByThunk_66 : decode cX4_routeByThunk 66 = .ok (.iload_n 2, 1) := by decide +kernel
theorem dX4_routeByThunk_67 : decode cX4_routeByThunk 67 = .ok (.dup2, 1) := by decide +kernel
theorem dX4_routeByThunk_68 : decode cX4_routeByThunk 68 = .ok (.iaload, 1) := by decide +kernel
theorem dX4_routeByThunk_69 : decode cX4_routeByThunk 69 = .ok (.iconst 1, 1) := by decide +kernel
theorem dX4_routeByThunk_70 : decode cX4_routeByThunk 70 = .ok (.iadd, 1) := by decide +kernel
theorem dX4_routeByThunk_71 : decode cX4_routeByThunk 71 = .ok (.iastore, 1) := by decide +kernel
theorem dX4_routeByThunk_72 : decode cX4_routeByThunk 72 = .ok (.return_, 1) := by decide +kernel
theorem dX4_labelAddress_0 : decode cX4_labelAddress 0 = .ok (.aload_n 0, 1) := by decide +kernel
theorem dX4_labelAddress_1 : decode cX4_labelAddress 1 = .ok (.getfield 21, 3) := by decide +kernel
theorem dX4_labelAddress_4 : decode cX4_labelAddress 4 = .ok (.getfield 190, 3) := by decide +kernel
theorem dX4_labelAddress_7 : decode cX4_labelAddress 7 = .ok (.aload_n 0, 1) := by decide +kernel
theorem dX4_labelAddress_8 : decode cX4_labelAddress 8 = .ok (.getfield 12, 3) := by decide +kernel
theorem dX4_labelAddress_11 : decode cX4_labelAddress 11 = .ok (.getfield 193, 3) := by decide +kernel
theorem dX4_labelAddress_14 : decode cX4_labelAddress 14 = .ok (.getfield 197, 3) := by decide +kernel
theorem dX4_labelAddress_17 : decode cX4_labelAddress 17 = .ok (.iload_n 1, 1) := by decide +kernel
theorem dX4_labelAddress_18 : decode cX4_labelAddress 18 = .ok (.iaload, 1) := by decide +kernel
theorem dX4_labelAddress_19 : decode cX4_labelAddress 19 = .ok (.laload, 1) := by decide +kernel
theorem dX4_labelAddress_20 : decode cX4_labelAddress 20 = .ok (.aload_n 0, 1) := by decide +kernel
theorem dX4_labelAddress_21 : decode cX4_labelAddress 21 = .ok (.getfield 12, 3) := by decide +kernel
theorem dX4_labelAddress_24 : decode cX4_labelAddress 24 = .ok (.getfield 193, 3) := by decide +kernel
theorem dX4_labelAddress_27 : decode cX4_labelAddress 27 = .ok (.getfield 201, 3) := by decide +kernel
theorem dX4_labelAddress_30 : decode cX4_labelAddress 30 = .ok (.iload_n 1, 1) := by decide +kernel
theorem dX4_labelAddress_31 : decode cX4_labelAddress 31 = .ok (.iaload, 1) := by decide +kernel
theorem dX4_labelAddress_32 : decode cX4_labelAddress 32 = .ok (.i2l, 1) := by decide +kernel
theorem dX4_labelAddress_33 : decode cX4_labelAddress 33 = .ok (.ladd, 1) := by decide +kernel
theorem dX4_labelAddress_34 : decode cX4_labelAddress 34 = .ok (.lreturn, 1) := by decide +kernel
theorem dX4_branchAddress_0 : decode cX4_branchAddress 0 = .ok (.aload_n 0, 1) := by decide +kernel
theorem dX4_branchAddress_1 : decode cX4_branchAddress 1 = .ok (.getfield 21, 3) := by decide +kernel
theorem dX4_branchAddress_4 : decode cX4_branchAddress 4 = .ok (.getfield 190, 3) := by decide +kernel
theorem dX4_branchAddress_7 : decode cX4_branchAddress 7 = .ok (.aload_n 0, 1) := by decide +kernel
theorem dX4_branchAddress_8 : decode cX4_branchAddress 8 = .ok (.getfield 12, 3) := by decide +kernel
theorem dX4_branchAddress_11 : decode cX4_branchAddress 11 = .ok (.getfield 85, 3) := by decide +kernel
theorem dX4_branchAddress_14 : decode cX4_branchAddress 14 = .ok (.getfield 204, 3) := by decide +kernel
theorem dX4_branchAddress_17 : decode cX4_branchAddress 17 = .ok (.iload_n 1, 1) := by decide +kernel
theorem dX4_branchAddress_18 : decode cX4_branchAddress 18 = .ok (.iaload, 1) := by decide +kernel
theorem dX4_branchAddress_19 : decode cX4_branchAddress 19 = .ok (.laload, 1) := by decide +kernel
theorem dX4_branchAddress_20 : decode cX4_branchAddress 20 = .ok (.aload_n 0, 1) := by decide +kernel
theorem dX4_branchAddress_21 : decode cX4_branchAddress 21 = .ok (.getfield 12, 3) := by decide +kernel
theorem dX4_branchAddress_24 : decode cX4_branchAddress 24 = .ok (.getfield 85, 3) := by decide +kernel
theorem dX4_branchAddress_27 : decode cX4_branchAddress 27 = .ok (.getfield 205, 3) := by decide +kernel
theorem dX4_branchAddress_30 : decode cX4_branchAddress 30 = .ok (.iload_n 1, 1) := by decide +kernel
theorem dX4_branchAddress_31 : decode cX4_branchAddress 31 = .ok (.iaload, 1) := by decide +kernel
theorem dX4_branchAddress_32 : decode cX4_branchAddress 32 = .ok (.i2l, 1) := by decide +kernel
theorem dX4_branchAddress_33 : decode cX4_branchAddress 33 = .ok (.ladd, 1) := by decide +kernel
theorem dX4_branchAddress_34 : decode cX4_branchAddress 34 = .ok (.lreturn, 1) := by decide +kernel
theorem dX4_bytesInAll_0 : decode cX4_bytesInAll 0 = .ok (.aload_n 0, 1) := by decide +kernel
theorem dX4_bytesInAll_1 : decode cX4_bytesInAll 1 = .ok (.getfield 21, 3) := by decide +kernel
theorem dX4_bytesInAll_4 : decode cX4_bytesInAll 4 = .ok (.getfield 206, 3) := by decide +kernel
theorem dX4_bytesInAll_7 : decode cX4_bytesInAll 7 = .ok (.aload_n 0, 1) := by decide +kernel
theorem dX4_bytesInAll_8 : decode cX4_bytesInAll 8 = .ok (.getfield 12, 3) := by decide +kernel
theorem dX4_bytesInAll_11 : decode cX4_bytesInAll 11 = .ok (.getfield 210, 3) := by decide +kernel
theorem dX4_bytesInAll_14 : decode cX4_bytesInAll 14 = .ok (.i2l, 1) := by decide +kernel
theorem dX4_bytesInAll_15 : decode cX4_bytesInAll 15 = .ok (.lsub, 1) := by decide +kernel
theorem dX4_bytesInAll_16 : decode cX4_bytesInAll 16 = .ok (.l2i, 1) := by decide +kernel
theorem dX4_bytesInAll_17 : decode cX4_bytesInAll 17 = .ok (.ireturn, 1) := by decide +kernel
theorem dX4_bytesBetween_0 : decode cX4_bytesBetween 0 = .ok (.aload_n 0, 1) := by decide +kernel
theorem dX4_bytesBetween_1 : decode cX4_bytesBetween 1 = .ok (.invokevirtual 213, 3) := by decide +kernel
theorem dX4_bytesBetween_4 : decode cX4_bytesBetween 4 = .ok (.aload_n 0, 1) := by decide +kernel
theorem dX4_bytesBetween_5 : decode cX4_bytesBetween 5 = .ok (.getfield 28, 3) := by decide +kernel
theorem dX4_bytesBetween_8 : decode cX4_bytesBetween 8 = .ok (.getfield 217, 3) := by decide +kernel
theorem dX4_bytesBetween_11 : decode cX4_bytesBetween 11 = .ok (.aload_n 0, 1) := by decide +kernel
theorem dX4_bytesBetween_12 : decode cX4_bytesBetween 12 = .ok (.getfield 12, 3) := by decide +kernel
theorem dX4_bytesBetween_15 : decode cX4_bytesBetween 15 = .ok (.getfield 220, 3) := by decide +kernel
theorem dX4_bytesBetween_18 : decode cX4_bytesBetween 18 = .ok (.imul, 1) := by decide +kernel
theorem dX4_bytesBetween_19 : decode cX4_bytesBetween 19 = .ok (.isub, 1) := by decide +kernel
theorem dX4_bytesBetween_20 : decode cX4_bytesBetween 20 = .ok (.istore_n 1, 1) := by decide +kernel
theorem dX4_bytesBetween_21 : decode cX4_bytesBetween 21 = .ok (.iconst 0, 1) := by decide +kernel
theorem dX4_bytesBetween_22 : decode cX4_bytesBetween 22 = .ok (.istore_n 2, 1) := by decide +kernel
theorem dX4_bytesBetween_23 : decode cX4_bytesBetween 23 = .ok (.iload_n 2, 1) := by decide +kernel
theorem dX4_bytesBetween_24 : decode cX4_bytesBetween 24 = .ok (.aload_n 0, 1) := by decide +kernel
theorem dX4_bytesBetween_25 : decode cX4_bytesBetween 25 = .ok (.getfield 12, 3) := by decide +kernel
theorem dX4_bytesBetween_28 : decode cX4_bytesBetween 28 = .ok (.getfield 115, 3) := by decide +kernel
theorem dX4_bytesBetween_31 : decode cX4_bytesBetween 31 = .ok (.getfield 119, 3) := by decide +kernel
theorem dX4_bytesBetween_34 : decode cX4_bytesBetween 34 = .ok (.if_icmp .ge 24, 3) := by decide +kernel
theorem dX4_bytesBetween_37 : decode cX4_bytesBetween 37 = .ok (.iload_n 1, 1) := by decide +kernel
theorem dX4_bytesBetween_38 : decode cX4_bytesBetween 38 = .ok (.aload_n 0, 1) := by decide +kernel
theorem dX4_bytesBetween_39 : decode cX4_bytesBetween 39 = .ok (.getfield 12, 3) := by decide +kernel
theorem dX4_bytesBetween_42 : decode cX4_bytesBetween 42 = .ok (.getfield 115, 3) := by decide +kernel
theorem dX4_bytesBetween_45 : decode cX4_bytesBetween 45 = .ok (.getfield 223, 3) := by decide +kernel
theorem dX4_bytesBetween_48 : decode cX4_bytesBetween 48 = .ok (.iload_n 2, 1) := by decide +kernel
theorem dX4_bytesBetween_49 : decode cX4_bytesBetween 49 = .ok (.iaload, 1) := by decide +kernel
theorem dX4_bytesBetween_50 : decode cX4_bytesBetween 50 = .ok (.isub, 1) := by decide +kernel
theorem dX4_bytesBetween_51 : decode cX4_bytesBetween 51 = .ok (.istore_n 1, 1) := by decide +kernel
theorem dX4_bytesBetween_52 : decode cX4_bytesBetween 52 = .ok (.iinc 2 1, 3) := by decide +kernel
theorem dX4_bytesBetween_55 : decode cX4_bytesBetween 55 = .ok (.goto (-32), 3) := by decide +kernel
theorem dX4_bytesBetween_58 : decode cX4_bytesBetween 58 = .ok (.iload_n 1, 1) := by decide +kernel
theorem dX4_bytesBetween_59 : decode cX4_bytesBetween 59 = .ok (.ireturn, 1) := by decide +kernel
theorem dX4_branchCode_0 : decode cX4_branchCode 0 = .ok (.aload_n 0, 1) := by decide +kernel
theorem dX4_branchCode_1 : decode cX4_branchCode 1 = .ok (.getfield 12, 3) := by decide +kernel
theorem dX4_branchCode_4 : decode cX4_branchCode 4 = .ok (.getfield 85, 3) := by decide +kernel
theorem dX4_branchCode_7 : decode cX4_branchCode 7 = .ok (.iload_n 1, 1) := by decide +kernel
theorem dX4_branchCode_8 : decode cX4_branchCode 8 = .ok (.invokevirtual 226, 3) := by decide +kernel
theorem dX4_branchCode_11 : decode cX4_branchCode 11 = .ok (.ifCond .eq 13, 3) := by decide +kernel
theorem dX4_branchCode_14 : decode cX4_branchCode 14 = .ok (.aload_n 0, 1) := by decide +kernel
theorem dX4_branchCode_15 : decode cX4_branchCode 15 = .ok (.getfield 32, 3) := by decide +kernel
theorem dX4_branchCode_18 : decode cX4_branchCode 18 = .ok (.iload_n 1, 1) := by decide +kernel
theorem dX4_branchCode_19 : decode cX4_branchCode 19 = .ok (.iaload, 1) := by decide +kernel
theorem dX4_branchCode_20 : decode cX4_branchCode 20 = .ok (.iconst 2, 1) := by decide +kernel
theorem dX4_branchCode_21 : decode cX4_branchCode 21 = .ok (.if_icmp .ne 5, 3) := by decide +kernel
theorem dX4_branchCode_24 : decode cX4_branchCode 24 = .ok (.iconst (-1), 1) := by decide +kernel
theorem dX4_branchCode_25 : decode cX4_branchCode 25 = .ok (.ireturn, 1) := by decide +kernel
theorem dX4_branchCode_26 : decode cX4_branchCode 26 = .ok (.aload_n 0, 1) := by decide +kernel
theorem dX4_branchCode_27 : decode cX4_branchCode 27 = .ok (.getfield 36, 3) := by decide +kernel
theorem dX4_branchCode_30 : decode cX4_branchCode 30 = .ok (.iload_n 1, 1) := by decide +kernel
theorem dX4_branchCode_31 : decode cX4_branchCode 31 = .ok (.iaload, 1) := by decide +kernel
theorem dX4_branchCode_32 : decode cX4_branchCode 32 = .ok (.istore_n 2, 1) := by decide +kernel
theorem dX4_branchCode_33 : decode cX4_branchCode 33 = .ok (.aload_n 0, 1) := by decide +kernel
theorem dX4_branchCode_34 : decode cX4_branchCode 34 = .ok (.getfield 28, 3) := by decide +kernel
theorem dX4_branchCode_37 : decode cX4_branchCode 37 = .ok (.iload_n 2, 1) := by decide +kernel
theorem dX4_branchCode_38 : decode cX4_branchCode 38 = .ok (.invokevirtual 173, 3) := by decide +kernel
theorem dX4_branchCode_41 : decode cX4_branchCode 41 = .ok (.ifCond .eq 15, 3) := by decide +kernel
theorem dX4_branchCode_44 : decode cX4_branchCode 44 = .ok (.aload_n 0, 1) := by decide +kernel
theorem dX4_branchCode_45 : decode cX4_branchCode 45 = .ok (.getfield 28, 3) := by decide +kernel
theorem dX4_branchCode_48 : decode cX4_branchCode 48 = .ok (.getfield 179, 3) := by decide +kernel
theorem dX4_branchCode_51 : decode cX4_branchCode 51 = .ok (.iload_n 2, 1) := by decide +kernel
theorem dX4_branchCode_52 : decode cX4_branchCode 52 = .ok (.laload, 1) := by decide +kernel
theorem dX4_branchCode_53 : decode cX4_branchCode 53 = .ok (.goto 19, 3) := by decide +kernel
theorem dX4_branchCode_56 : decode cX4_branchCode 56 = .ok (.aload_n 0, 1) := by decide +kernel
theorem dX4_branchCode_57 : decode cX4_branchCode 57 = .ok (.aload_n 0, 1) := by decide +kernel
theorem dX4_branchCode_58 : decode cX4_branchCode 58 = .ok (.getfield 12, 3) := by decide +kernel
theorem dX4_branchCode_61 : decode cX4_branchCode 61 = .ok (.getfield 85, 3) := by decide +kernel
theorem dX4_branchCode_64 : decode cX4_branchCode 64 = .ok (.getfield 108, 3) := by decide +kernel
theorem dX4_branchCode_67 : decode cX4_branchCode 67 = .ok (.iload_n 1, 1) := by decide +kernel
theorem dX4_branchCode_68 : decode cX4_branchCode 68 = .ok (.iaload, 1) := by decide +kernel
theorem dX4_branchCode_69 : decode cX4_branchCode 69 = .ok (.invokevirtual 166, 3) := by decide +kernel
theorem dX4_branchCode_72 : decode cX4_branchCode 72 = .ok (.lstore_n 3, 1) := by decide +kernel
theorem dX4_branchCode_73 : decode cX4_branchCode 73 = .ok (.aload_n 0, 1) := by decide +kernel
theorem dX4_branchCode_74 : decode cX4_branchCode 74 = .ok (.getfield 12, 3) := by decide +kernel
theorem dX4_branchCode_77 : decode cX4_branchCode 77 = .ok (.getfield 150, 3) := by decide +kernel
theorem dX4_branchCode_80 : decode cX4_branchCode 80 = .ok (.aload_n 0, 1) := by decide +kernel
theorem dX4_branchCode_81 : decode cX4_branchCode 81 = .ok (.getfield 12, 3) := by decide +kernel
theorem dX4_branchCode_84 : decode cX4_branchCode 84 = .ok (.getfield 85, 3) := by decide +kernel
theorem dX4_branchCode_87 : decode cX4_branchCode 87 = .ok (.getfield 154, 3) := by decide +kernel
theorem dX4_branchCode_90 : decode cX4_branchCode 90 = .ok (.iload_n 1, 1) := by decide +kernel
theorem dX4_branchCode_91 : decode cX4_branchCode 91 = .ok (.iaload, 1) := by decide +kernel
theorem dX4_branchCode_92 : decode cX4_branchCode 92 = .ok (.aload_n 0, 1) := by decide +kernel
theorem dX4_branchCode_93 : decode cX4_branchCode 93 = .ok (.iload_n 1, 1) := by decide +kernel
theorem dX4_branchCode_94 : decode cX4_branchCode 94 = .ok (.invokevirtual 111, 3) := by decide +kernel
theorem dX4_branchCode_97 : decode cX4_branchCode 97 = .ok (.lload_n 3, 1) := by decide +kernel
theorem dX4_branchCode_98 : decode cX4_branchCode 98 = .ok (.invokevirtual 227, 3) := by decide +kernel
theorem dX4_branchCode_101 : decode cX4_branchCode 101 = .ok (.ireturn, 1) := by decide +kernel
theorem dX4_thunkCode_0 : decode cX4_thunkCode 0 = .ok (.aload_n 0, 1) := by decide +kernel
theorem dX4_thunkCode_1 : decode cX4_thunkCode 1 = .ok (.getfield 28, 3) := by decide +kernel
theorem dX4_thunkCode_4 : decode cX4_thunkCode 4 = .ok (.iload_n 1, 1) := by decide +kernel
theorem dX4_thunkCode_5 : decode cX4_thunkCode 5 = .ok (.invokevirtual 173, 3) := by decide +kernel
theorem dX4_thunkCode_8 : decode cX4_thunkCode 8 = .ok (.ifCond .ne 5, 3) := by decide +kernel
theorem dX4_thunkCode_11 : decode cX4_thunkCode 11 = .ok (.iconst (-1), 1) := by decide +kernel
theorem dX4_thunkCode_12 : decode cX4_thunkCode 12 = .ok (.ireturn, 1) := by decide +kernel
theorem dX4_thunkCode_13 : decode cX4_thunkCode 13 = .ok (.aload_n 0, 1) := by decide +kernel
theorem dX4_thunkCode_14 : decode cX4_thunkCode 14 = .ok (.getfield 12, 3) := by decide +kernel
theorem dX4_thunkCode_17 : decode cX4_thunkCode 17 = .ok (.getfield 150, 3) := by decide +kernel
theorem dX4_thunkCode_20 : decode cX4_thunkCode 20 = .ok (.aload_n 0, 1) := by decide +kernel
theorem dX4_thunkCode_21 : decode cX4_thunkCode 21 = .ok (.getfield 12, 3) := by decide +kernel
theorem dX4_thunkCode_24 : decode cX4_thunkCode 24 = .ok (.getfield 163, 3) := by decide +kernel
theorem dX4_thunkCode_27 : decode cX4_thunkCode 27 = .ok (.aload_n 0, 1) := by decide +kernel
theorem dX4_thunkCode_28 : decode cX4_thunkCode 28 = .ok (.getfield 28, 3) := by decide +kernel
theorem dX4_thunkCode_31 : decode cX4_thunkCode 31 = .ok (.getfield 179, 3) := by decide +kernel
theorem dX4_thunkCode_34 : decode cX4_thunkCode 34 = .ok (.iload_n 1, 1) := by decide +kernel
theorem dX4_thunkCode_35 : decode cX4_thunkCode 35 = .ok (.laload, 1) := by decide +kernel
theorem dX4_thunkCode_36 : decode cX4_thunkCode 36 = .ok (.aload_n 0, 1) := by decide +kernel
theorem dX4_thunkCode_37 : decode cX4_thunkCode 37 = .ok (.aload_n 0, 1) := by decide +kernel
theorem dX4_thunkCode_38 : decode cX4_thunkCode 38 = .ok (.getfield 28, 3) := by decide +kernel
theorem dX4_thunkCode_41 : decode cX4_thunkCode 41 = .ok (.getfield 182, 3) := by decide +kernel
theorem dX4_thunkCode_44 : decode cX4_thunkCode 44 = .ok (.iload_n 1, 1) := by decide +kernel
theorem dX4_thunkCode_45 : decode cX4_thunkCode 45 = .ok (.iaload, 1) := by decide +kernel
theorem dX4_thunkCode_46 : decode cX4_thunkCode 46 = .ok (.invokevirtual 166, 3) := by decide +kernel
theorem dX4_thunkCode_49 : decode cX4_thunkCode 49 = .ok (.invokevirtual 227, 3) := by decide +kernel
theorem dX4_thunkCode_52 : decode cX4_thunkCode 52 = .ok (.ireturn, 1) := by decide +kernel
theorem dX4_walkFrom_0 : decode cX4_walkFrom 0 = .ok (.aload_n 0, 1) := by decide +kernel
theorem dX4_walkFrom_1 : decode cX4_walkFrom 1 = .ok (.iload_n 1, 1) := by decide +kernel
theorem dX4_walkFrom_2 : decode cX4_walkFrom 2 = .ok (.invokevirtual 231, 3) := by decide +kernel
theorem dX4_walkFrom_5 : decode cX4_walkFrom 5 = .ok (.istore_n 2, 1) := by decide +kernel
theorem dX4_walkFrom_6 : decode cX4_walkFrom 6 = .ok (.iload_n 2, 1) := by decide +kernel
theorem dX4_walkFrom_7 : decode cX4_walkFrom 7 = .ok (.iconst (-1), 1) := by decide +kernel
theorem dX4_walkFrom_8 : decode cX4_walkFrom 8 = .ok (.if_icmp .ne 7, 3) := by decide +kernel
theorem dX4_walkFrom_11 : decode cX4_walkFrom 11 = .ok (.ldc2_w 234, 3) := by decide +kernel
theorem dX4_walkFrom_14 : decode cX4_walkFrom 14 = .ok (.lreturn, 1) := by decide +kernel
theorem dX4_walkFrom_15 : decode cX4_walkFrom 15 = .ok (.aload_n 0, 1) := by decide +kernel
theorem dX4_walkFrom_16 : decode cX4_walkFrom 16 = .ok (.getfield 12, 3) := by decide +kernel
theorem dX4_walkFrom_19 : decode cX4_walkFrom 19 = .ok (.getfield 150, 3) := by decide +kernel
theorem dX4_walkFrom_22 : decode cX4_walkFrom 22 = .ok (.aload_n 0, 1) := by decide +kernel
theorem dX4_walkFrom_23 : decode cX4_walkFrom 23 = .ok (.getfield 12, 3) := by decide +kernel
theorem dX4_walkFrom_26 : decode cX4_walkFrom 26 = .ok (.getfield 85, 3) := by decide +kernel
theorem dX4_walkFrom_29 : decode cX4_walkFrom 29 = .ok (.getfield 154, 3) := by decide +kernel
theorem dX4_walkFrom_32 : decode cX4_walkFrom 32 = .ok (.iload_n 1, 1) := by decide +kernel
theorem dX4_walkFrom_33 : decode cX4_walkFrom 33 = .ok (.iaload, 1) := by decide +kernel
theorem dX4_walkFrom_34 : decode cX4_walkFrom 34 = .ok (.aload_n 0, 1) := by decide +kernel
theorem dX4_walkFrom_35 : decode cX4_walkFrom 35 = .ok (.iload_n 1, 1) := by decide +kernel
theorem dX4_walkFrom_36 : decode cX4_walkFrom 36 = .ok (.invokevirtual 111, 3) := by decide +kernel
theorem dX4_walkFrom_39 : decode cX4_walkFrom 39 = .ok (.iload_n 2, 1) := by decide +kernel
theorem dX4_walkFrom_40 : decode cX4_walkFrom 40 = .ok (.invokevirtual 236, 3) := by decide +kernel
theorem dX4_walkFrom_43 : decode cX4_walkFrom 43 = .ok (.lstore_n 3, 1) := by decide +kernel
theorem dX4_walkFrom_44 : decode cX4_walkFrom 44 = .ok (.aload_n 0, 1) := by decide +kernel
theorem dX4_walkFrom_45 : decode cX4_walkFrom 45 = .ok (.aload_n 0, 1) := by decide +kernel
theorem dX4_walkFrom_46 : decode cX4_walkFrom 46 = .ok (.getfield 36, 3) := by decide +kernel
theorem dX4_walkFrom_49 : decode cX4_walkFrom 49 = .ok (.iload_n 1, 1) := by decide +kernel
theorem dX4_walkFrom_50 : decode cX4_walkFrom 50 = .ok (.iaload, 1) := by decide +kernel
theorem dX4_walkFrom_51 : decode cX4_walkFrom 51 = .ok (.invokevirtual 240, 3) := by decide +kernel
theorem dX4_walkFrom_54 : decode cX4_walkFrom 54 = .ok (.istore 5, 2) := by decide +kernel
theorem dX4_walkFrom_56 : decode cX4_walkFrom 56 = .ok (.iload 5, 2) := by decide +kernel
theorem dX4_walkFrom_58 : decode cX4_walkFrom 58 = .ok (.iconst (-1), 1) := by decide +kernel
theorem dX4_walkFrom_59 : decode cX4_walkFrom 59 = .ok (.if_icmp .ne 5, 3) := by decide +kernel
theorem dX4_walkFrom_62 : decode cX4_walkFrom 62 = .ok (.lload_n 3, 1) := by decide +kernel
theorem dX4_walkFrom_63 : decode cX4_walkFrom 63 = .ok (.lreturn, 1) := by decide +kernel
theorem dX4_walkFrom_64 : decode cX4_walkFrom 64 = .ok (.aload_n 0, 1) := by decide +kernel
theorem dX4_walkFrom_65 : decode cX4_walkFrom 65 = .ok (.getfield 12, 3) := by decide +kernel
theorem dX4_walkFrom_68 : decode cX4_walkFrom 68 = .ok (.getfield 150, 3) := by decide +kernel
theorem dX4_walkFrom_71 : decode cX4_walkFrom 71 = .ok (.aload_n 0, 1) := by decide +kernel
theorem dX4_walkFrom_72 : decode cX4_walkFrom 72 = .ok (.getfield 12, 3) := by decide +kernel
theorem dX4_walkFrom_75 : decode cX4_walkFrom 75 = .ok (.getfield 163, 3) := by decide +kernel
theorem dX4_walkFrom_78 : decode cX4_walkFrom 78 = .ok (.lload_n 3, 1) := by decide +kernel
theorem dX4_walkFrom_79 : decode cX4_walkFrom 79 = .ok (.iload 5, 2) := by decide +kernel
theorem dX4_walkFrom_81 : decode cX4_walkFrom 81 = .ok (.invokevirtual 236, 3) := by decide +kernel
theorem dX4_walkFrom_84 : decode cX4_walkFrom 84 = .ok (.lreturn, 1) := by decide +kernel
theorem dX4_whatIsAt_0 : decode cX4_whatIsAt 0 = .ok (.lload_n 1, 1) := by decide +kernel
theorem dX4_whatIsAt_1 : decode cX4_whatIsAt 1 = .ok (.aload_n 0, 1) := by decide +kernel
theorem dX4_whatIsAt_2 : decode cX4_whatIsAt 2 = .ok (.getfield 12, 3) := by decide +kernel
theorem dX4_whatIsAt_5 : decode cX4_whatIsAt 5 = .ok (.getfield 210, 3) := by decide +kernel
theorem dX4_whatIsAt_8 : decode cX4_whatIsAt 8 = .ok (.i2l, 1) := by decide +kernel
theorem dX4_whatIsAt_9 : decode cX4_whatIsAt 9 = .ok (.lcmp, 1) := by decide +kernel
theorem dX4_whatIsAt_10 : decode cX4_whatIsAt 10 = .ok (.ifCond .lt 15, 3) := by decide +kernel
theorem dX4_whatIsAt_13 : decode cX4_whatIsAt 13 = .ok (.lload_n 1, 1) := by decide +kernel
theorem dX4_whatIsAt_14 : decode cX4_whatIsAt 14 = .ok (.aload_n 0, 1) := by decide +kernel
theorem dX4_whatIsAt_15 : decode cX4_whatIsAt 15 = .ok (.getfield 21, 3) := by decide +kernel
theorem dX4_whatIsAt_18 : decode cX4_whatIsAt 18 = .ok (.getfield 206, 3) := by decide +kernel
theorem dX4_whatIsAt_21 : decode cX4_whatIsAt 21 = .ok (.lcmp, 1) := by decide +kernel
theorem dX4_whatIsAt_22 : decode cX4_whatIsAt 22 = .ok (.ifCond .lt 5, 3) := by decide +kernel
theorem dX4_whatIsAt_25 : decode cX4_whatIsAt 25 = .ok (.iconst (-1), 1) := by decide +kernel
theorem dX4_whatIsAt_26 : decode cX4_whatIsAt 26 = .ok (.ireturn, 1) := by decide +kernel
theorem dX4_whatIsAt_27 : decode cX4_whatIsAt 27 = .ok (.iconst 0, 1) := by decide +kernel
theorem dX4_whatIsAt_28 : decode cX4_whatIsAt 28 = .ok (.istore_n 3, 1) := by decide +kernel
theorem dX4_whatIsAt_29 : decode cX4_whatIsAt 29 = .ok (.iload_n 3, 1) := by decide +kernel
theorem dX4_whatIsAt_30 : decode cX4_whatIsAt 30 = .ok (.aload_n 0, 1) := by decide +kernel
theorem dX4_whatIsAt_31 : decode cX4_whatIsAt 31 = .ok (.getfield 12, 3) := by decide +kernel
theorem dX4_whatIsAt_34 : decode cX4_whatIsAt 34 = .ok (.getfield 115, 3) := by decide +kernel
theorem dX4_whatIsAt_37 : decode cX4_whatIsAt 37 = .ok (.getfield 119, 3) := by decide +kernel
theorem dX4_whatIsAt_40 : decode cX4_whatIsAt 40 = .ok (.if_icmp .ge 43, 3) := by decide +kernel
theorem dX4_whatIsAt_43 : decode cX4_whatIsAt 43 = .ok (.lload_n 1, 1) := by decide +kernel
theorem dX4_whatIsAt_44 : decode cX4_whatIsAt 44 = .ok (.aload_n 0, 1) := by decide +kernel
theorem dX4_whatIsAt_45 : decode cX4_whatIsAt 45 = .ok (.getfield 21, 3) := by decide +kernel
theorem dX4_whatIsAt_48 : decode cX4_whatIsAt 48 = .ok (.getfield 190, 3) := by decide +kernel
theorem dX4_whatIsAt_51 : decode cX4_whatIsAt 51 = .ok (.iload_n 3, 1) := by decide +kernel
theorem dX4_whatIsAt_52 : decode cX4_whatIsAt 52 = .ok (.laload, 1) := by decide +kernel
theorem dX4_whatIsAt_53 : decode cX4_whatIsAt 53 = .ok (.aload_n 0, 1) := by decide +kernel
theorem dX4_whatIsAt_54 : decode cX4_whatIsAt 54 = .ok (.getfield 12, 3) := by decide +kernel
theorem dX4_whatIsAt_57 : decode cX4_whatIsAt 57 = .ok (.getfield 115, 3) := by decide +kernel
theorem dX4_whatIsAt_60 : decode cX4_whatIsAt 60 = .ok (.getfield 223, 3) := by decide +kernel
theorem dX4_whatIsAt_63 : decode cX4_whatIsAt 63 = .ok (.iload_n 3, 1) := by decide +kernel
theorem dX4_whatIsAt_64 : decode cX4_whatIsAt 64 = .ok (.iaload, 1) := by decide +kernel
theorem dX4_whatIsAt_65 : decode cX4_whatIsAt 65 = .ok (.invokestatic 243, 3) := by decide +kernel
