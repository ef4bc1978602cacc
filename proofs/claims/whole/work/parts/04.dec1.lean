theorem dX4_whatIsAt_68 : decode cX4_whatIsAt 68 = .ok (.ifCond .eq 9, 3) := by decide +kernel
theorem dX4_whatIsAt_71 : decode cX4_whatIsAt 71 = .ok (.sipush 1000, 3) := by decide +kernel
theorem dX4_whatIsAt_74 : decode cX4_whatIsAt 74 = .ok (.iload_n 3, 1) := by decide +kernel
theorem dX4_whatIsAt_75 : decode cX4_whatIsAt 75 = .ok (.iadd, 1) := by decide +kernel
theorem dX4_whatIsAt_76 : decode cX4_whatIsAt 76 = .ok (.ireturn, 1) := by decide +kernel
theorem dX4_whatIsAt_77 : decode cX4_whatIsAt 77 = .ok (.iinc 3 1, 3) := by decide +kernel
theorem dX4_whatIsAt_80 : decode cX4_whatIsAt 80 = .ok (.goto (-51), 3) := by decide +kernel
theorem dX4_whatIsAt_83 : decode cX4_whatIsAt 83 = .ok (.iconst 0, 1) := by decide +kernel
theorem dX4_whatIsAt_84 : decode cX4_whatIsAt 84 = .ok (.istore_n 3, 1) := by decide +kernel
theorem dX4_whatIsAt_85 : decode cX4_whatIsAt 85 = .ok (.iload_n 3, 1) := by decide +kernel
theorem dX4_whatIsAt_86 : decode cX4_whatIsAt 86 = .ok (.aload_n 0, 1) := by decide +kernel
theorem dX4_whatIsAt_87 : decode cX4_whatIsAt 87 = .ok (.getfield 28, 3) := by decide +kernel
theorem dX4_whatIsAt_90 : decode cX4_whatIsAt 90 = .ok (.getfield 217, 3) := by decide +kernel
theorem dX4_whatIsAt_93 : decode cX4_whatIsAt 93 = .ok (.if_icmp .ge 38, 3) := by decide +kernel
theorem dX4_whatIsAt_96 : decode cX4_whatIsAt 96 = .ok (.lload_n 1, 1) := by decide +kernel
theorem dX4_whatIsAt_97 : decode cX4_whatIsAt 97 = .ok (.aload_n 0, 1) := by decide +kernel
theorem dX4_whatIsAt_98 : decode cX4_whatIsAt 98 = .ok (.getfield 28, 3) := by decide +kernel
theorem dX4_whatIsAt_101 : decode cX4_whatIsAt 101 = .ok (.getfield 179, 3) := by decide +kernel
theorem dX4_whatIsAt_104 : decode cX4_whatIsAt 104 = .ok (.iload_n 3, 1) := by decide +kernel
theorem dX4_whatIsAt_105 : decode cX4_whatIsAt 105 = .ok (.laload, 1) := by decide +kernel
theorem dX4_whatIsAt_106 : decode cX4_whatIsAt 106 = .ok (.aload_n 0, 1) := by decide +kernel
theorem dX4_whatIsAt_107 : decode cX4_whatIsAt 107 = .ok (.getfield 12, 3) := by decide +kernel
theorem dX4_whatIsAt_110 : decode cX4_whatIsAt 110 = .ok (.getfield 220, 3) := by decide +kernel
theorem dX4_whatIsAt_113 : decode cX4_whatIsAt 113 = .ok (.invokestatic 243, 3) := by decide +kernel
theorem dX4_whatIsAt_116 : decode cX4_whatIsAt 116 = .ok (.ifCond .eq 9, 3) := by decide +kernel
theorem dX4_whatIsAt_119 : decode cX4_whatIsAt 119 = .ok (.sipush 2000, 3) := by decide +kernel
theorem dX4_whatIsAt_122 : decode cX4_whatIsAt 122 = .ok (.iload_n 3, 1) := by decide +kernel
theorem dX4_whatIsAt_123 : decode cX4_whatIsAt 123 = .ok (.iadd, 1) := by decide +kernel
theorem dX4_whatIsAt_124 : decode cX4_whatIsAt 124 = .ok (.ireturn, 1) := by decide +kernel
theorem dX4_whatIsAt_125 : decode cX4_whatIsAt 125 = .ok (.iinc 3 1, 3) := by decide +kernel
theorem dX4_whatIsAt_128 : decode cX4_whatIsAt 128 = .ok (.goto (-43), 3) := by decide +kernel
theorem dX4_whatIsAt_131 : decode cX4_whatIsAt 131 = .ok (.iconst 0, 1) := by decide +kernel
theorem dX4_whatIsAt_132 : decode cX4_whatIsAt 132 = .ok (.ireturn, 1) := by decide +kernel
theorem dX4_isWithin_0 : decode cX4_isWithin 0 = .ok (.lload_n 0, 1) := by decide +kernel
theorem dX4_isWithin_1 : decode cX4_isWithin 1 = .ok (.lload_n 2, 1) := by decide +kernel
theorem dX4_isWithin_2 : decode cX4_isWithin 2 = .ok (.lcmp, 1) := by decide +kernel
theorem dX4_isWithin_3 : decode cX4_isWithin 3 = .ok (.ifCond .lt 17, 3) := by decide +kernel
theorem dX4_isWithin_6 : decode cX4_isWithin 6 = .ok (.lload_n 0, 1) := by decide +kernel
theorem dX4_isWithin_7 : decode cX4_isWithin 7 = .ok (.lload_n 2, 1) := by decide +kernel
theorem dX4_isWithin_8 : decode cX4_isWithin 8 = .ok (.iload 4, 2) := by decide +kernel
theorem dX4_isWithin_10 : decode cX4_isWithin 10 = .ok (.i2l, 1) := by decide +kernel
theorem dX4_isWithin_11 : decode cX4_isWithin 11 = .ok (.ladd, 1) := by decide +kernel
theorem dX4_isWithin_12 : decode cX4_isWithin 12 = .ok (.lcmp, 1) := by decide +kernel
theorem dX4_isWithin_13 : decode cX4_isWithin 13 = .ok (.ifCond .ge 7, 3) := by decide +kernel
theorem dX4_isWithin_16 : decode cX4_isWithin 16 = .ok (.iconst 1, 1) := by decide +kernel
theorem dX4_isWithin_17 : decode cX4_isWithin 17 = .ok (.goto 4, 3) := by decide +kernel
theorem dX4_isWithin_20 : decode cX4_isWithin 20 = .ok (.iconst 0, 1) := by decide +kernel
theorem dX4_isWithin_21 : decode cX4_isWithin 21 = .ok (.ireturn, 1) := by decide +kernel
theorem dX5_init_0 : decode cX5_init 0 = .ok (.aload_n 0, 1) := by decide +kernel
theorem dX5_init_1 : decode cX5_init 1 = .ok (.invokespecial 3, 3) := by decide +kernel
theorem dX5_init_4 : decode cX5_init 4 = .ok (.aload_n 0, 1) := by decide +kernel
theorem dX5_init_5 : decode cX5_init 5 = .ok (.iconst 0, 1) := by decide +kernel
theorem dX5_init_6 : decode cX5_init 6 = .ok (.putfield 9, 3) := by decide +kernel
theorem dX5_init_9 : decode cX5_init 9 = .ok (.aload_n 0, 1) := by decide +kernel
theorem dX5_init_10 : decode cX5_init 10 = .ok (.iconst 0, 1) := by decide +kernel
theorem dX5_init_11 : decode cX5_init 11 = .ok (.putfield 15, 3) := by decide +kernel
theorem dX5_init_14 : decode cX5_init 14 = .ok (.aload_n 0, 1) := by decide +kernel
theorem dX5_init_15 : decode cX5_init 15 = .ok (.bipush 40, 2) := by decide +kernel
theorem dX5_init_17 : decode cX5_init 17 = .ok (.newarray .int, 2) := by decide +kernel
theorem dX5_init_19 : decode cX5_init 19 = .ok (.putfield 18, 3) := by decide +kernel
theorem dX5_init_22 : decode cX5_init 22 = .ok (.aload_n 0, 1) := by decide +kernel
theorem dX5_init_23 : decode cX5_init 23 = .ok (.bipush 40, 2) := by decide +kernel
theorem dX5_init_25 : decode cX5_init 25 = .ok (.newarray .int, 2) := by decide +kernel
theorem dX5_init_27 : decode cX5_init 27 = .ok (.putfield 22, 3) := by decide +kernel
theorem dX5_init_30 : decode cX5_init 30 = .ok (.aload_n 0, 1) := by decide +kernel
theorem dX5_init_31 : decode cX5_init 31 = .ok (.bipush 40, 2) := by decide +kernel
theorem dX5_init_33 : decode cX5_init 33 = .ok (.newarray .boolean, 2) := by decide +kernel
theorem dX5_init_35 : decode cX5_init 35 = .ok (.putfield 25, 3) := by decide +kernel
theorem dX5_init_38 : decode cX5_init 38 = .ok (.return_, 1) := by decide +kernel
theorem dX5_has_0 : decode cX5_has 0 = .ok (.iload_n 1, 1) := by decide +kernel
theorem dX5_has_1 : decode cX5_has 1 = .ok (.ifCond .lt 15, 3) := by decide +kernel
theorem dX5_has_4 : decode cX5_has 4 = .ok (.iload_n 1, 1) := by decide +kernel
theorem dX5_has_5 : decode cX5_has 5 = .ok (.aload_n 0, 1) := by decide +kernel
theorem dX5_has_6 : decode cX5_has 6 = .ok (.getfield 9, 3) := by decide +kernel
theorem dX5_has_9 : decode cX5_has 9 = .ok (.if_icmp .ge 7, 3) := by decide +kernel
theorem dX5_has_12 : decode cX5_has 12 = .ok (.iconst 1, 1) := by decide +kernel
theorem dX5_has_13 : decode cX5_has 13 = .ok (.goto 4, 3) := by decide +kernel
theorem dX5_has_16 : decode cX5_has 16 = .ok (.iconst 0, 1) := by decide +kernel
theorem dX5_has_17 : decode cX5_has 17 = .ok (.ireturn, 1) := by decide +kernel
theorem dX5_hasPool_0 : decode cX5_hasPool 0 = .ok (.aload_n 0, 1) := by decide +kernel
theorem dX5_hasPool_1 : decode cX5_hasPool 1 = .ok (.iload_n 1, 1) := by decide +kernel
theorem dX5_hasPool_2 : decode cX5_hasPool 2 = .ok (.invokevirtual 29, 3) := by decide +kernel
theorem dX5_hasPool_5 : decode cX5_hasPool 5 = .ok (.ifCond .eq 16, 3) := by decide +kernel
theorem dX5_hasPool_8 : decode cX5_hasPool 8 = .ok (.aload_n 0, 1) := by decide +kernel
theorem dX5_hasPool_9 : decode cX5_hasPool 9 = .ok (.getfield 25, 3) := by decide +kernel
theorem dX5_hasPool_12 : decode cX5_hasPool 12 = .ok (.iload_n 1, 1) := by decide +kernel
theorem dX5_hasPool_13 : decode cX5_hasPool 13 = .ok (.baload, 1) := by decide +kernel
theorem dX5_hasPool_14 : decode cX5_hasPool 14 = .ok (.ifCond .eq 7, 3) := by decide +kernel
theorem dX5_hasPool_17 : decode cX5_hasPool 17 = .ok (.iconst 1, 1) := by decide +kernel
theorem dX5_hasPool_18 : decode cX5_hasPool 18 = .ok (.goto 4, 3) := by decide +kernel
theorem dX5_hasPool_21 : decode cX5_hasPool 21 = .ok (.iconst 0, 1) := by decide +kernel
theorem dX5_hasPool_22 : decode cX5_hasPool 22 = .ok (.ireturn, 1) := by decide +kernel
theorem dX5_isSize_0 : decode cX5_isSize 0 = .ok (.iload_n 0, 1) := by decide +kernel
theorem dX5_isSize_1 : decode cX5_isSize 1 = .ok (.ifCond .lt 13, 3) := by decide +kernel
theorem dX5_isSize_4 : decode cX5_isSize 4 = .ok (.iload_n 0, 1) := by decide +kernel
theorem dX5_isSize_5 : decode cX5_isSize 5 = .ok (.ldc 33, 2) := by decide +kernel
theorem dX5_isSize_7 : decode cX5_isSize 7 = .ok (.if_icmp .gt 7, 3) := by decide +kernel
theorem dX5_isSize_10 : decode cX5_isSize 10 = .ok (.iconst 1, 1) := by decide +kernel
theorem dX5_isSize_11 : decode cX5_isSize 11 = .ok (.goto 4, 3) := by decide +kernel
theorem dX5_isSize_14 : decode cX5_isSize 14 = .ok (.iconst 0, 1) := by decide +kernel
theorem dX5_isSize_15 : decode cX5_isSize 15 = .ok (.ireturn, 1) := by decide +kernel
theorem dX5_append_0 : decode cX5_append 0 = .ok (.aload_n 0, 1) := by decide +kernel
theorem dX5_append_1 : decode cX5_append 1 = .ok (.getfield 9, 3) := by decide +kernel
theorem dX5_append_4 : decode cX5_append 4 = .ok (.bipush 40, 2) := by decide +kernel
theorem dX5_append_6 : decode cX5_append 6 = .ok (.if_icmp .ge 20, 3) := by decide +kernel
theorem dX5_append_9 : decode cX5_append 9 = .ok (.iload_n 1, 1) := by decide +kernel
theorem dX5_append_10 : decode cX5_append 10 = .ok (.invokestatic 34, 3) := by decide +kernel
theorem dX5_append_13 : decode cX5_append 13 = .ok (.ifCond .eq 13, 3) := by decide +kernel
theorem dX5_append_16 : decode cX5_append 16 = .ok (.iload_n 2, 1) := by decide +kernel
theorem dX5_append_17 : decode cX5_append 17 = .ok (.ifCond .lt 9, 3) := by decide +kernel
theorem dX5_append_20 : decode cX5_append 20 = .ok (.iload_n 2, 1) := by decide +kernel
theorem dX5_append_21 : decode cX5_append 21 = .ok (.bipush 12, 2) := by decide +kernel
theorem dX5_append_23 : decode cX5_append 23 = .ok (.if_icmp .le 5, 3) := by decide +kernel
theorem dX5_append_26 : decode cX5_append 26 = .ok (.iconst (-1), 1) := by decide +kernel
theorem dX5_append_27 : decode cX5_append 27 = .ok (.ireturn, 1) := by decide +kernel
theorem dX5_append_28 : decode cX5_append 28 = .ok (.aload_n 0, 1) := by decide +kernel
theorem dX5_append_29 : decode cX5_append 29 = .ok (.getfield 9, 3) := by decide +kernel
theorem dX5_append_32 : decode cX5_append 32 = .ok (.istore 4, 2) := by decide +kernel
theorem dX5_append_34 : decode cX5_append 34 = .ok (.aload_n 0, 1) := by decide +kernel
theorem dX5_append_35 : decode cX5_append 35 = .ok (.getfield 18, 3) := by decide +kernel
theorem dX5_append_38 : decode cX5_append 38 = .ok (.iload 4, 2) := by decide +kernel
theorem dX5_append_40 : decode cX5_append 40 = .ok (.iload_n 1, 1) := by decide +kernel
theorem dX5_append_41 : decode cX5_append 41 = .ok (.iastore, 1) := by decide +kernel
theorem dX5_append_42 : decode cX5_append 42 = .ok (.aload_n 0, 1) := by decide +kernel
theorem dX5_append_43 : decode cX5_append 43 = .ok (.getfield 22, 3) := by decide +kernel
theorem dX5_append_46 : decode cX5_append 46 = .ok (.iload 4, 2) := by decide +kernel
theorem dX5_append_48 : decode cX5_append 48 = .ok (.iconst 1, 1) := by decide +kernel
theorem dX5_append_49 : decode cX5_append 49 = .ok (.iload_n 2, 1) := by decide +kernel
theorem dX5_append_50 : decode cX5_append 50 = .ok (.ishl, 1) := by decide +kernel
theorem dX5_append_51 : decode cX5_append 51 = .ok (.iastore, 1) := by decide +kernel
theorem dX5_append_52 : decode cX5_append 52 = .ok (.aload_n 0, 1) := by decide +kernel
theorem dX5_append_53 : decode cX5_append 53 = .ok (.getfield 25, 3) := by decide +kernel
theorem dX5_append_56 : decode cX5_append 56 = .ok (.iload 4, 2) := by decide +kernel
theorem dX5_append_58 : decode cX5_append 58 = .ok (.iload_n 3, 1) := by decide +kernel
theorem dX5_append_59 : decode cX5_append 59 = .ok (.bastore, 1) := by decide +kernel
theorem dX5_append_60 : decode cX5_append 60 = .ok (.iload_n 3, 1) := by decide +kernel
theorem dX5_append_61 : decode cX5_append 61 = .ok (.ifCond .eq 13, 3) := by decide +kernel
theorem dX5_append_64 : decode cX5_append 64 = .ok (.aload_n 0, 1) := by decide +kernel
theorem dX5_append_65 : decode cX5_append 65 = .ok (.dup, 1) := by decide +kernel
theorem dX5_append_66 : decode cX5_append 66 = .ok (.getfield 15, 3) := by decide +kernel
theorem dX5_append_69 : decode cX5_append 69 = .ok (.iconst 1, 1) := by decide +kernel
theorem dX5_append_70 : decode cX5_append 70 = .ok (.iadd, 1) := by decide +kernel
theorem dX5_append_71 : decode cX5_append 71 = .ok (.putfield 15, 3) := by decide +kernel
theorem dX5_append_74 : decode cX5_append 74 = .ok (.aload_n 0, 1) := by decide +kernel
theorem dX5_append_75 : decode cX5_append 75 = .ok (.dup, 1) := by decide +kernel
theorem dX5_append_76 : decode cX5_append 76 = .ok (.getfield 9, 3) := by decide +kernel
theorem dX5_append_79 : decode cX5_append 79 = .ok (.iconst 1, 1) := by decide +kernel
theorem dX5_append_80 : decode cX5_append 80 = .ok (.iadd, 1) := by decide +kernel
theorem dX5_append_81 : decode cX5_append 81 = .ok (.putfield 9, 3) := by decide +kernel
theorem dX5_append_84 : decode cX5_append 84 = .ok (.iload 4, 2) := by decide +kernel
theorem dX5_append_86 : decode cX5_append 86 = .ok (.ireturn, 1) := by decide +kernel
theorem dX5_copyFrom_0 : decode cX5_copyFrom 0 = .ok (.aload_n 0, 1) := by decide +kernel
theorem dX5_copyFrom_1 : decode cX5_copyFrom 1 = .ok (.aload_n 1, 1) := by decide +kernel
theorem dX5_copyFrom_2 : decode cX5_copyFrom 2 = .ok (.getfield 9, 3) := by decide +kernel
theorem dX5_copyFrom_5 : decode cX5_copyFrom 5 = .ok (.putfield 9, 3) := by decide +kernel
theorem dX5_copyFrom_8 : decode cX5_copyFrom 8 = .ok (.aload_n 0, 1) := by decide +kernel
theorem dX5_copyFrom_9 : decode cX5_copyFrom 9 = .ok (.aload_n 1, 1) := by decide +kernel
theorem dX5_copyFrom_10 : decode cX5_copyFrom 10 = .ok (.getfield 15, 3) := by decide +kernel
theorem dX5_copyFrom_13 : decode cX5_copyFrom 13 = .ok (.putfield 15, 3) := by decide +kernel
theorem dX5_copyFrom_16 : decode cX5_copyFrom 16 = .ok (.iconst 0, 1) := by decide +kernel
theorem dX5_copyFrom_17 : decode cX5_copyFrom 17 = .ok (.istore_n 2, 1) := by decide +kernel
theorem dX5_copyFrom_18 : decode cX5_copyFrom 18 = .ok (.iload_n 2, 1) := by decide +kernel
theorem dX5_copyFrom_19 : decode cX5_copyFrom 19 = .ok (.bipush 40, 2) := by decide +kernel
theorem dX5_copyFrom_21 : decode cX5_copyFrom 21 = .ok (.if_icmp .ge 45, 3) := by decide +kernel
theorem dX5_copyFrom_24 : decode cX5_copyFrom 24 = .ok (.aload_n 0, 1) := by decide +kernel
theorem dX5_copyFrom_25 : decode cX5_copyFrom 25 = .ok (.getfield 18, 3) := by decide +kernel
theorem dX5_copyFrom_28 : decode cX5_copyFrom 28 = .ok (.iload_n 2, 1) := by decide +kernel
theorem dX5_copyFrom_29 : decode cX5_copyFrom 29 = .ok (.aload_n 1, 1) := by decide +kernel
theorem dX5_copyFrom_30 : decode cX5_copyFrom 30 = .ok (.getfield 18, 3) := by decide +kernel
theorem dX5_copyFrom_33 : decode cX5_copyFrom 33 = .ok (.iload_n 2, 1) := by decide +kernel
theorem dX5_copyFrom_34 : decode cX5_copyFrom 34 = .ok (.iaload, 1) := by decide +kernel
theorem dX5_copyFrom_35 : decode cX5_copyFrom 35 = .ok (.iastore, 1) := by decide +kernel
theorem dX5_copyFrom_36 : decode cX5_copyFrom 36 = .ok (.aload_n 0, 1) := by decide +kernel
theorem dX5_copyFrom_37 : decode cX5_copyFrom 37 = .ok (.getfield 22, 3) := by decide +kernel
theorem dX5_copyFrom_40 : decode cX5_copyFrom 40 = .ok (.iload_n 2, 1) := by decide +kernel
theorem dX5_copyFrom_41 : decode cX5_copyFrom 41 = .ok (.aload_n 1, 1) := by decide +kernel
theorem dX5_copyFrom_42 : decode cX5_copyFrom 42 = .ok (.getfield 22, 3) := by decide +kernel
theorem dX5_copyFrom_45 : decode cX5_copyFrom 45 = .ok (.iload_n 2, 1) := by decide +kernel
theorem dX5_copyFrom_46 : decode cX5_copyFrom 46 = .ok (.iaload, 1) := by decide +kernel
theorem dX5_copyFrom_47 : decode cX5_copyFrom 47 = .ok (.iastore, 1) := by decide +kernel
theorem dX5_copyFrom_48 : decode cX5_copyFrom 48 = .ok (.aload_n 0, 1) := by decide +kernel
theorem dX5_copyFrom_49 : decode cX5_copyFrom 49 = .ok (.getfield 25, 3) := by decide +kernel
theorem dX5_copyFrom_52 : decode cX5_copyFrom 52 = .ok (.iload_n 2, 1) := by decide +kernel
theorem dX5_copyFrom_53 : decode cX5_copyFrom 53 = .ok (.aload_n 1, 1) := by decide +kernel
theorem dX5_copyFrom_54 : decode cX5_copyFrom 54 = .ok (.getfield 25, 3) := by decide +kernel
theorem dX5_copyFrom_57 : decode cX5_copyFrom 57 = .ok (.iload_n 2, 1) := by decide +kernel
theorem dX5_copyFrom_58 : decode cX5_copyFrom 58 = .ok (.baload, 1) := by decide +kernel
theorem dX5_copyFrom_59 : decode cX5_copyFrom 59 = .ok (.bastore, 1) := by decide +kernel
theorem dX5_copyFrom_60 : decode cX5_copyFrom 60 = .ok (.iinc 2 1, 3) := by decide +kernel
theorem dX5_copyFrom_63 : decode cX5_copyFrom 63 = .ok (.goto (-45), 3) := by decide +kernel
theorem dX5_copyFrom_66 : decode cX5_copyFrom 66 = .ok (.return_, 1) := by decide +kernel
theorem dX6_init_0 : decode cX6_init 0 = .ok (.aload_n 0, 1) := by decide +kernel
theorem dX6_init_1 : decode cX6_init 1 = .ok (.invokespecial 3, 3) := by decide +kernel
theorem dX6_init_4 : decode cX6_init 4 = .ok (.aload_n 0, 1) := by decide +kernel
theorem dX6_init_5 : decode cX6_init 5 = .ok (.iconst 0, 1) := by decide +kernel
theorem dX6_init_6 : decode cX6_init 6 = .ok (.putfield 9, 3) := by decide +kernel
theorem dX6_init_9 : decode cX6_init 9 = .ok (.aload_n 0, 1) := by decide +kernel
theorem dX6_init_10 : decode cX6_init 10 = .ok (.iconst 0, 1) := by decide +kernel
theorem dX6_init_11 : decode cX6_init 11 = .ok (.putfield 15, 3) := by decide +kernel
theorem dX6_init_14 : decode cX6_init 14 = .ok (.aload_n 0, 1) := by decide +kernel
theorem dX6_init_15 : decode cX6_init 15 = .ok (.bipush 16, 2) := by decide +kernel
theorem dX6_init_17 : decode cX6_init 17 = .ok (.newarray .int, 2) := by decide +kernel
theorem dX6_init_19 : decode cX6_init 19 = .ok (.putfield 18, 3) := by decide +kernel
theorem dX6_init_22 : decode cX6_init 22 = .ok (.aload_n 0, 1) := by decide +kernel
theorem dX6_init_23 : decode cX6_init 23 = .ok (.bipush 16, 2) := by decide +kernel
theorem dX6_init_25 : decode cX6_init 25 = .ok (.newarray .int, 2) := by decide +kernel
theorem dX6_init_27 : decode cX6_init 27 = .ok (.putfield 22, 3) := by decide +kernel
theorem dX6_init_30 : decode cX6_init 30 = .ok (.aload_n 0, 1) := by decide +kernel
theorem dX6_init_31 : decode cX6_init 31 = .ok (.bipush 16, 2) := by decide +kernel
theorem dX6_init_33 : decode cX6_init 33 = .ok (.newarray .int, 2) := by decide +kernel
theorem dX6_init_35 : decode cX6_init 35 = .ok (.putfield 25, 3) := by decide +kernel
theorem dX6_init_38 : decode cX6_init 38 = .ok (.aload_n 0, 1) := by decide +kernel
theorem dX6_init_39 : decode cX6_init 39 = .ok (.bipush 16, 2) := by decide +kernel
theorem dX6_init_41 : decode cX6_init 41 = .ok (.newarray .int, 2) := by decide +kernel
theorem dX6_init_43 : decode cX6_init 43 = .ok (.putfield 28, 3) := by decide +kernel
theorem dX6_init_46 : decode cX6_init 46 = .ok (.aload_n 0, 1) := by decide +kernel
theorem dX6_init_47 : decode cX6_init 47 = .ok (.bipush 16, 2) := by decide +kernel
theorem dX6_init_49 : decode cX6_init 49 = .ok (.newarray .int, 2) := by decide +kernel
theorem dX6_init_51 : decode cX6_init 51 = .ok (.putfield 31, 3) := by decide +kernel
theorem dX6_init_54 : decode cX6_init 54 = .ok (.aload_n 0, 1) := by decide +kernel
theorem dX6_init_55 : decode cX6_init 55 = .ok (.bipush 16, 2) := by decide +kernel
theorem dX6_init_57 : decode cX6_init 57 = .ok (.newarray .int, 2) := by decide +kernel
theorem dX6_init_59 : decode cX6_init 59 = .ok (.putfield 34, 3) := by decide +kernel
theorem dX6_init_62 : decode cX6_init 62 = .ok (.aload_n 0, 1) := by decide +kernel
theorem dX6_init_63 : decode cX6_init 63 = .ok (.bipush 16, 2) := by decide +kernel
theorem dX6_init_65 : decode cX6_init 65 = .ok (.newarray .long, 2) := by decide +kernel
theorem dX6_init_67 : decode cX6_init 67 = .ok (.putfield 37, 3) := by decide +kernel
theorem dX6_init_70 : decode cX6_init 70 = .ok (.aload_n 0, 1) := by decide +kernel
theorem dX6_init_71 : decode cX6_init 71 = .ok (.bipush 40, 2) := by decide +kernel
theorem dX6_init_73 : decode cX6_init 73 = .ok (.newarray .int, 2) := by decide +kernel
theorem dX6_init_75 : decode cX6_init 75 = .ok (.putfield 41, 3) := by decide +kernel
theorem dX6_init_78 : decode cX6_init 78 = .ok (.aload_n 0, 1) := by decide +kernel
theorem dX6_init_79 : decode cX6_init 79 = .ok (.sipush 2400, 3) := by decide +kernel
theorem dX6_init_82 : decode cX6_init 82 = .ok (.newarray .int, 2) := by decide +kernel
theorem dX6_init_84 : decode cX6_init 84 = .ok (.putfield 44, 3) := by decide +kernel
theorem dX6_init_87 : decode cX6_init 87 = .ok (.return_, 1) := by decide +kernel
theorem dX6_has_0 : decode cX6_has 0 = .ok (.iload_n 1, 1) := by decide +kernel
theorem dX6_has_1 : decode cX6_has 1 = .ok (.ifCond .lt 15, 3) := by decide +kernel
theorem dX6_has_4 : decode cX6_has 4 = .ok (.iload_n 1, 1) := by decide +kernel
theorem dX6_has_5 : decode cX6_has 5 = .ok (.aload_n 0, 1) := by decide +kernel
theorem dX6_has_6 : decode cX6_has 6 = .ok (.getfield 9, 3) := by decide +kernel
theorem dX6_has_9 : decode cX6_has 9 = .ok (.if_icmp .ge 7, 3) := by decide +kernel
theorem dX6_has_12 : decode cX6_has 12 = .ok (.iconst 1, 1) := by decide +kernel
theorem dX6_has_13 : decode cX6_has 13 = .ok (.goto 4, 3) := by decide +kernel
theorem dX6_has_16 : decode cX6_has 16 = .ok (.iconst 0, 1) := by decide +kernel
theorem dX6_has_17 : decode cX6_has 17 = .ok (.ireturn, 1) := by decide +kernel
theorem dX6_clear_0 : decode cX6_clear 0 = .ok (.aload_n 0, 1) := by decide +kernel
theorem dX6_clear_1 : decode cX6_clear 1 = .ok (.iconst 0, 1) := by decide +kernel
theorem dX6_clear_2 : decode cX6_clear 2 = .ok (.putfield 9, 3) := by decide +kernel
theorem dX6_clear_5 : decode cX6_clear 5 = .ok (.aload_n 0, 1) := by decide +kernel
theorem dX6_clear_6 : decode cX6_clear 6 = .ok (.iconst 0, 1) := by decide +kernel
theorem dX6_clear_7 : decode cX6_clear 7 = .ok (.putfield 15, 3) := by decide +kernel
theorem dX6_clear_10 : decode cX6_clear 10 = .ok (.aload_n 0, 1) := by decide +kernel
theorem dX6_clear_11 : decode cX6_clear 11 = .ok (.getfield 41, 3) := by decide +kernel
theorem dX6_clear_14 : decode cX6_clear 14 = .ok (.iconst 0, 1) := by decide +kernel
theorem dX6_clear_15 : decode cX6_clear 15 = .ok (.invokestatic 47, 3) := by decide +kernel
theorem dX6_clear_18 : decode cX6_clear 18 = .ok (.aload_n 0, 1) := by decide +kernel
theorem dX6_clear_19 : decode cX6_clear 19 = .ok (.getfield 44, 3) := by decide +kernel
theorem dX6_clear_22 : decode cX6_clear 22 = .ok (.iconst (-1), 1) := by decide +kernel
theorem dX6_clear_23 : decode cX6_clear 23 = .ok (.invokestatic 47, 3) := by decide +kernel
theorem dX6_clear_26 : decode cX6_clear 26 = .ok (.return_, 1) := by decide +kernel
theorem dX6_numberOf_0 : decode cX6_numberOf 0 = .ok (.aload_n 0, 1) := by decide +kernel
theorem dX6_numberOf_1 : decode cX6_numberOf 1 = .ok (.getfield 44, 3) := by decide +kernel
theorem dX6_numberOf_4 : decode cX6_numberOf 4 = .ok (.iload_n 1, 1) := by decide +kernel
theorem dX6_numberOf_5 : decode cX6_numberOf 5 = .ok (.bipush 60, 2) := by decide +kernel
theorem dX6_numberOf_7 : decode cX6_numberOf 7 = .ok (.imul, 1) := by decide +kernel
theorem dX6_numberOf_8 : decode cX6_numberOf 8 = .ok (.iload_n 2, 1) := by decide +kernel
theorem dX6_numberOf_9 : decode cX6_numberOf 9 = .ok (.iadd, 1) := by decide +kernel
theorem dX6_numberOf_10 : decode cX6_numberOf 10 = .ok (.iaload, 1) := by decide +kernel
theorem dX6_numberOf_11 : decode cX6_numberOf 11 = .ok (.ireturn, 1) := by decide +kernel
theorem dX6_isMade_0 : decode cX6_isMade 0 = .ok (.aload_n 0, 1) := by decide +kernel
theorem dX6_isMade_1 : decode cX6_isMade 1 = .ok (.aload_n 0, 1) := by decide +kernel
theorem dX6_isMade_2 : decode cX6_isMade 2 = .ok (.iload_n 1, 1) := by decide +kernel
theorem dX6_isMade_3 : decode cX6_isMade 3 = .ok (.iload_n 2, 1) := by decide +kernel
theorem dX6_isMade_4 : decode cX6_isMade 4 = .ok (.invokevirtual 53, 3) := by decide +kernel
theorem dX6_isMade_7 : decode cX6_isMade 7 = .ok (.invokevirtual 57, 3) := by decide +kernel
theorem dX6_isMade_10 : decode cX6_isMade 10 = .ok (.ireturn, 1) := by decide +kernel
theorem dX6_isWanted_0 : decode cX6_isWanted 0 = .ok (.aload_n 0, 1) := by decide +kernel
theorem dX6_isWanted_1 : decode cX6_isWanted 1 = .ok (.iload_n 1, 1) := by decide +kernel
theorem dX6_isWanted_2 : decode cX6_isWanted 2 = .ok (.iload_n 2, 1) := by decide +kernel
theorem dX6_isWanted_3 : decode cX6_isWanted 3 = .ok (.invokevirtual 53, 3) := by decide +kernel
theorem dX6_isWanted_6 : decode cX6_isWanted 6 = .ok (.aload_n 0, 1) := by decide +kernel
theorem dX6_isWanted_7 : decode cX6_isWanted 7 = .ok (.getfield 9, 3) := by decide +kernel
theorem dX6_isWanted_10 : decode cX6_isWanted 10 = .ok (.if_icmp .lt 7, 3) := by decide +kernel
theorem dX6_isWanted_13 : decode cX6_isWanted 13 = .ok (.iconst 1, 1) := by decide +kernel
theorem dX6_isWanted_14 : decode cX6_isWanted 14 = .ok (.goto 4, 3) := by decide +kernel
theorem dX6_isWanted_17 : decode cX6_isWanted 17 = .ok (.iconst 0, 1) := by decide +kernel
theorem dX6_isWanted_18 : decode cX6_isWanted 18 = .ok (.ireturn, 1) := by decide +kernel
theorem dX6_want_0 : decode cX6_want 0 = .ok (.aload_n 0, 1) := by decide +kernel
theorem dX6_want_1 : decode cX6_want 1 = .ok (.getfield 15, 3) := by decide +kernel
theorem dX6_want_4 : decode cX6_want 4 = .ok (.sipush 2400, 3) := by decide +kernel
theorem dX6_want_7 : decode cX6_want 7 = .ok (.if_icmp .lt 4, 3) := by decide +kernel
theorem dX6_want_10 : decode cX6_want 10 = .ok (.return_, 1) := by decide +kernel
theorem dX6_want_11 : decode cX6_want 11 = .ok (.aload_n 0, 1) := by decide +kernel
theorem dX6_want_12 : decode cX6_want 12 = .ok (.getfield 15, 3) := by decide +kernel
theorem dX6_want_15 : decode cX6_want 15 = .ok (.aload_n 0, 1) := by decide +kernel
theorem dX6_want_16 : decode cX6_want 16 = .ok (.getfield 18, 3) := by decide +kernel
theorem dX6_want_19 : decode cX6_want 19 = .ok (.arraylength, 1) := by decide +kernel
theorem dX6_want_20 : decode cX6_want 20 = .ok (.if_icmp .lt 7, 3) := by decide +kernel
theorem dX6_want_23 : decode cX6_want 23 = .ok (.aload_n 0, 1) := by decide +kernel
theorem dX6_want_24 : decode cX6_want 24 = .ok (.invokevirtual 61, 3) := by decide +kernel
theorem dX6_want_27 : decode cX6_want 27 = .ok (.aload_n 0, 1) := by decide +kernel
theorem dX6_want_28 : decode cX6_want 28 = .ok (.getfield 15, 3) := by decide +kernel
theorem dX6_want_31 : decode cX6_want 31 = .ok (.istore 5, 2) := by decide +kernel
theorem dX6_want_33 : decode cX6_want 33 = .ok (.aload_n 0, 1) := by decide +kernel
theorem dX6_want_34 : decode cX6_want 34 = .ok (.getfield 18, 3) := by decide +kernel
theorem dX6_want_37 : decode cX6_want 37 = .ok (.iload 5, 2) := by decide +kernel
theorem dX6_want_39 : decode cX6_want 39 = .ok (.iload_n 1, 1) := by decide +kernel
theorem dX6_want_40 : decode cX6_want 40 = .ok (.iastore, 1) := by decide +kernel
theorem dX6_want_41 : decode cX6_want 41 = .ok (.aload_n 0, 1) := by decide +kernel
theorem dX6_want_42 : decode cX6_want 42 = .ok (.getfield 22, 3) := by decide +kernel
theorem dX6_want_45 : decode cX6_want 45 = .ok (.iload 5, 2) := by decide +kernel
theorem dX6_want_47 : decode cX6_want 47 = .ok (.iload_n 2, 1) := by decide +kernel
theorem dX6_want_48 : decode cX6_want 48 = .ok (.iastore, 1) := by decide +kernel
theorem dX6_want_49 : decode cX6_want 49 = .ok (.aload_n 0, 1) := by decide +kernel
theorem dX6_want_50 : decode cX6_want 50 = .ok (.getfield 25, 3) := by decide +kernel
theorem dX6_want_53 : decode cX6_want 53 = .ok (.iload 5, 2) := by decide +kernel
theorem dX6_want_55 : decode cX6_want 55 = .ok (.iload_n 3, 1) := by decide +kernel
theorem dX6_want_56 : decode cX6_want 56 = .ok (.iastore, 1) := by decide +kernel
theorem dX6_want_57 : decode cX6_want 57 = .ok (.aload_n 0, 1) := by decide +kernel
theorem dX6_want_58 : decode cX6_want 58 = .ok (.getfield 28, 3) := by decide +kernel
theorem dX6_want_61 : decode cX6_want 61 = .ok (.iload 5, 2) := by decide +kernel
theorem dX6_want_63 : decode cX6_want 63 = .ok (.iload 4, 2) := by decide +kernel
theorem dX6_want_65 : decode cX6_want 65 = .ok (.iastore, 1) := by decide +kernel
theorem dX6_want_66 : decode cX6_want 66 = .ok (.aload_n 0, 1) := by decide +kernel
theorem dX6_want_67 : decode cX6_want 67 = .ok (.getfield 31, 3) := by decide +kernel
theorem dX6_want_70 : decode cX6_want 70 = .ok (.iload 5, 2) := by decide +kernel
theorem dX6_want_72 : decode cX6_want 72 = .ok (.iconst 0, 1) := by decide +kernel
theorem dX6_want_73 : decode cX6_want 73 = .ok (.iastore, 1) := by decide +kernel
theorem dX6_want_74 : decode cX6_want 74 = .ok (.aload_n 0, 1) := by decide +kernel
theorem dX6_want_75 : decode cX6_want 75 = .ok (.getfield 44, 3) := by decide +kernel
theorem dX6_want_78 : decode cX6_want 78 = .ok (.iload_n 1, 1) := by decide +kernel
theorem dX6_want_79 : decode cX6_want 79 = .ok (.bipush 60, 2) := by decide +kernel
theorem dX6_want_81 : decode cX6_want 81 = .ok (.imul, 1) := by decide +kernel
theorem dX6_want_82 : decode cX6_want 82 = .ok (.iload_n 2, 1) := by decide +kernel
theorem dX6_want_83 : decode cX6_want 83 = .ok (.iadd, 1) := by decide +kernel
theorem dX6_want_84 : decode cX6_want 84 = .ok (.iload 5, 2) := by decide +kernel
theorem dX6_want_86 : decode cX6_want 86 = .ok (.iastore, 1) := by decide +kernel
theorem dX6_want_87 : decode cX6_want 87 = .ok (.aload_n 0, 1) := by decide +kernel
theorem dX6_want_88 : decode cX6_want 88 = .ok (.dup, 1) := by decide +kernel
theorem dX6_want_89 : decode cX6_want 89 = .ok (.getfield 15, 3) := by decide +kernel
theorem dX6_want_92 : decode cX6_want 92 = .ok (.iconst 1, 1) := by decide +kernel
theorem dX6_want_93 : decode cX6_want 93 = .ok (.iadd, 1) := by decide +kernel
theorem dX6_want_94 : decode cX6_want 94 = .ok (.putfield 15, 3) := by decide +kernel
theorem dX6_want_97 : decode cX6_want 97 = .ok (.return_, 1) := by decide +kernel
theorem dX6_grow_0 : decode cX6_grow 0 = .ok (.sipush 2400, 3) := by decide +kernel
theorem dX6_grow_3 : decode cX6_grow 3 = .ok (.aload_n 0, 1) := by decide +kernel
theorem dX6_grow_4 : decode cX6_grow 4 = .ok (.getfield 18, 3) := by decide +kernel
theorem dX6_grow_7 : decode cX6_grow 7 = .ok (.arraylength, 1) := by decide +kernel
theorem dX6_grow_8 : decode cX6_grow 8 = .ok (.iconst 2, 1) := by decide +kernel
theorem dX6_grow_9 : decode cX6_grow 9 = .ok (.imul, 1) := by decide +kernel
theorem dX6_grow_10 : decode cX6_grow 10 = .ok (.invokestatic 64, 3) := by decide +kernel
theorem dX6_grow_13 : decode cX6_grow 13 = .ok (.istore_n 1, 1) := by decide +kernel
theorem dX6_grow_14 : decode cX6_grow 14 = .ok (.aload_n 0, 1) := by decide +kernel
theorem dX6_grow_15 : decode cX6_grow 15 = .ok (.aload_n 0, 1) := by decide +kernel
theorem dX6_grow_16 : decode cX6_grow 16 = .ok (.getfield 18, 3) := by decide +kernel
theorem dX6_grow_19 : decode cX6_grow 19 = .ok (.iload_n 1, 1) := by decide +kernel
theorem dX6_grow_20 : decode cX6_grow 20 = .ok (.invokestatic 69, 3) := by decide +kernel
theorem dX6_grow_23 : decode cX6_grow 23 = .ok (.putfield 18, 3) := by decide +kernel
theorem dX6_grow_26 : decode cX6_grow 26 = .ok (.aload_n 0, 1) := by decide +kernel
theorem dX6_grow_27 : decode cX6_grow 27 = .ok (.aload_n 0, 1) := by decide +kernel
theorem dX6_grow_28 : decode cX6_grow 28 = .ok (.getfield 22, 3) := by decide +kernel
theorem dX6_grow_31 : decode cX6_grow 31 = .ok (.iload_n 1, 1) := by decide +kernel
theorem dX6_grow_32 : decode cX6_grow 32 = .ok (.invokestatic 69, 3) := by decide +kernel
theorem dX6_grow_35 : decode cX6_grow 35 = .ok (.putfield 22, 3) := by decide +kernel
theorem dX6_grow_38 : decode cX6_grow 38 = .ok (.aload_n 0, 1) := by decide +kernel
theorem dX6_grow_39 : decode cX6_grow 39 = .ok (.aload_n 0, 1) := by decide +kernel
theorem dX6_grow_40 : decode cX6_grow 40 = .ok (.getfield 25, 3) := by decide +kernel
theorem dX6_grow_43 : decode cX6_grow 43 = .ok (.iload_n 1, 1) := by decide +kernel
theorem dX6_grow_44 : decode cX6_grow 44 = .ok (.invokestatic 69, 3) := by decide +kernel
theorem dX6_grow_47 : decode cX6_grow 47 = .ok (.putfield 25, 3) := by decide +kernel
theorem dX6_grow_50 : decode cX6_grow 50 = .ok (.aload_n 0, 1) := by decide +kernel
theorem dX6_grow_51 : decode cX6_grow 51 = .ok (.aload_n 0, 1) := by decide +kernel
theorem dX6_grow_52 : decode cX6_grow 52 = .ok (.getfield 28, 3) := by decide +kernel
theorem dX6_grow_55 : decode cX6_grow 55 = .ok (.iload_n 1, 1) := by decide +kernel
theorem dX6_grow_56 : decode cX6_grow 56 = .ok (.invokestatic 69, 3) := by decide +kernel
theorem dX6_grow_59 : decode cX6_grow 59 = .ok (.putfield 28, 3) := by decide +kernel
theorem dX6_grow_62 : decode cX6_grow 62 = .ok (.aload_n 0, 1) := by decide +kernel
theorem dX6_grow_63 : decode cX6_grow 63 = .ok (.aload_n 0, 1) := by decide +kernel
theorem dX6_grow_64 : decode cX6_grow 64 = .ok (.getfield 31, 3) := by decide +kernel
theorem dX6_grow_67 : decode cX6_grow 67 = .ok (.iload_n 1, 1) := by decide +kernel
theorem dX6_grow_68 : decode cX6_grow 68 = .ok (.invokestatic 69, 3) := by decide +kernel
theorem dX6_grow_71 : decode cX6_grow 71 = .ok (.putfield 31, 3) := by decide +kernel
theorem dX6_grow_74 : decode cX6_grow 74 = .ok (.aload_n 0, 1) := by decide +kernel
theorem dX6_grow_75 : decode cX6_grow 75 = .ok (.aload_n 0, 1) := by decide +kernel
theorem dX6_grow_76 : decode cX6_grow 76 = .ok (.getfield 34, 3) := by decide +kernel
theorem dX6_grow_79 : decode cX6_grow 79 = .ok (.iload_n 1, 1) := by decide +kernel
theorem dX6_grow_80 : decode cX6_grow 80 = .ok (.invokestatic 69, 3) := by decide +kernel
theorem dX6_grow_83 : decode cX6_grow 83 = .ok (.putfield 34, 3) := by decide +kernel
theorem dX6_grow_86 : decode cX6_grow 86 = .ok (.aload_n 0, 1) := by decide +kernel
theorem dX6_grow_87 : decode cX6_grow 87 = .ok (.aload_n 0, 1) := by decide +kernel
theorem dX6_grow_88 : decode cX6_grow 88 = .ok (.getfield 37, 3) := by decide +kernel
theorem dX6_grow_91 : decode cX6_grow 91 = .ok (.iload_n 1, 1) := by decide +kernel
theorem dX6_grow_92 : decode cX6_grow 92 = .ok (.invokestatic 73, 3) := by decide +kernel
theorem dX6_grow_95 : decode cX6_grow 95 = .ok (.putfield 37, 3) := by decide +kernel
theorem dX6_grow_98 : decode cX6_grow 98 = .ok (.return_, 1) := by decide +kernel
theorem dX6_makeWanted_0 : decode cX6_makeWanted 0 = .ok (.aload_n 0, 1) := by decide +kernel
theorem dX6_makeWanted_1 : decode cX6_makeWanted 1 = .ok (.getfield 9, 3) := by decide +kernel
theorem dX6_makeWanted_4 : decode cX6_makeWanted 4 = .ok (.aload_n 0, 1) := by decide +kernel
theorem dX6_makeWanted_5 : decode cX6_makeWanted 5 = .ok (.getfield 15, 3) := by decide +kernel
theorem dX6_makeWanted_8 : decode cX6_makeWanted 8 = .ok (.if_icmp .ne 5, 3) := by decide +kernel
theorem dX6_makeWanted_11 : decode cX6_makeWanted 11 = .ok (.iconst 0, 1) := by decide +kernel
theorem dX6_makeWanted_12 : decode cX6_makeWanted 12 = .ok (.ireturn, 1) := by decide +kernel
theorem dX6_makeWanted_13 : decode cX6_makeWanted 13 = .ok (.aload_n 0, 1) := by decide +kernel
theorem dX6_makeWanted_14 : decode cX6_makeWanted 14 = .ok (.getfield 9, 3) := by decide +kernel
theorem dX6_makeWanted_17 : decode cX6_makeWanted 17 = .ok (.istore_n 1, 1) := by decide +kernel
theorem dX6_makeWanted_18 : decode cX6_makeWanted 18 = .ok (.iload_n 1, 1) := by decide +kernel
theorem dX6_makeWanted_19 : decode cX6_makeWanted 19 = .ok (.aload_n 0, 1) := by decide +kernel
theorem dX6_makeWanted_20 : decode cX6_makeWanted 20 = .ok (.getfield 15, 3) := by decide +kernel
theorem dX6_makeWanted_23 : decode cX6_makeWanted 23 = .ok (.if_icmp .ge 41, 3) := by decide +kernel
theorem dX6_makeWanted_26 : decode cX6_makeWanted 26 = .ok (.aload_n 0, 1) := by decide +kernel
theorem dX6_makeWanted_27 : decode cX6_makeWanted 27 = .ok (.getfield 34, 3) := by decide +kernel
theorem dX6_makeWanted_30 : decode cX6_makeWanted 30 = .ok (.iload_n 1, 1) := by decide +kernel
theorem dX6_makeWanted_31 : decode cX6_makeWanted 31 = .ok (.aload_n 0, 1) := by decide +kernel
theorem dX6_makeWanted_32 : decode cX6_makeWanted 32 = .ok (.getfield 41, 3) := by decide +kernel
theorem dX6_makeWanted_35 : decode cX6_makeWanted 35 = .ok (.aload_n 0, 1) := by decide +kernel
theorem dX6_makeWanted_36 : decode cX6_makeWanted 36 = .ok (.getfield 18, 3) := by decide +kernel
theorem dX6_makeWanted_39 : decode cX6_makeWanted 39 = .ok (.iload_n 1, 1) := by decide +kernel
theorem dX6_makeWanted_40 : decode cX6_makeWanted 40 = .ok (.iaload, 1) := by decide +kernel
theorem dX6_makeWanted_41 : decode cX6_makeWanted 41 = .ok (.iaload, 1) := by decide +kernel
theorem dX6_makeWanted_42 : decode cX6_makeWanted 42 = .ok (.iastore, 1) := by decide +kernel
theorem dX6_makeWanted_43 : decode cX6_makeWanted 43 = .ok (.aload_n 0, 1) := by decide +kernel
theorem dX6_makeWanted_44 : decode cX6_makeWanted 44 = .ok (.getfield 41, 3) := by decide +kernel
theorem dX6_makeWanted_47 : decode cX6_makeWanted 47 = .ok (.aload_n 0, 1) := by decide +kernel
theorem dX6_makeWanted_48 : decode cX6_makeWanted 48 = .ok (.getfield 18, 3) := by decide +kernel
theorem dX6_makeWanted_51 : decode cX6_makeWanted 51 = .ok (.iload_n 1, 1) := by decide +kernel
theorem dX6_makeWanted_52 : decode cX6_makeWanted 52 = .ok (.iaload, 1) := by decide +kernel
theorem dX6_makeWanted_53 : decode cX6_makeWanted 53 = .ok (.dup2, 1) := by decide +kernel
theorem dX6_makeWanted_54 : decode cX6_makeWanted 54 = .ok (.iaload, 1) := by decide +kernel
theorem dX6_makeWanted_55 : decode cX6_makeWanted 55 = .ok (.iconst 1, 1) := by decide +kernel
theorem dX6_makeWanted_56 : decode cX6_makeWanted 56 = .ok (.iadd, 1) := by decide +kernel
theorem dX6_makeWanted_57 : decode cX6_makeWanted 57 = .ok (.iastore, 1) := by decide +kernel
theorem dX6_makeWanted_58 : decode cX6_makeWanted 58 = .ok (.iinc 1 1, 3) := by decide +kernel
theorem dX6_makeWanted_61 : decode cX6_makeWanted 61 = .ok (.goto (-43), 3) := by decide +kernel
theorem dX6_makeWanted_64 : decode cX6_makeWanted 64 = .ok (.aload_n 0, 1) := by decide +kernel
theorem dX6_makeWanted_65 : decode cX6_makeWanted 65 = .ok (.aload_n 0, 1) := by decide +kernel
theorem dX6_makeWanted_66 : decode cX6_makeWanted 66 = .ok (.getfield 15, 3) := by decide +kernel
theorem dX6_makeWanted_69 : decode cX6_makeWanted 69 = .ok (.putfield 9, 3) := by decide +kernel
theorem dX6_makeWanted_72 : decode cX6_makeWanted 72 = .ok (.iconst 1, 1) := by decide +kernel
theorem dX6_makeWanted_73 : decode cX6_makeWanted 73 = .ok (.ireturn, 1) := by decide +kernel
theorem dX6_findPlaces_0 : decode cX6_findPlaces 0 = .ok (.iconst 0, 1) := by decide +kernel
theorem dX6_findPlaces_1 : decode cX6_findPlaces 1 = .ok (.istore 4, 2) := by decide +kernel
theorem dX6_findPlaces_3 : decode cX6_findPlaces 3 = .ok (.iload 4, 2) := by decide +kernel
theorem dX6_findPlaces_5 : decode cX6_findPlaces 5 = .ok (.aload_n 0, 1) := by decide +kernel
theorem dX6_findPlaces_6 : decode cX6_findPlaces 6 = .ok (.getfield 9, 3) := by decide +kernel
theorem dX6_findPlaces_9 : decode cX6_findPlaces 9 = .ok (.if_icmp .ge 39, 3) := by decide +kernel
theorem dX6_findPlaces_12 : decode cX6_findPlaces 12 = .ok (.aload_n 0, 1) := by decide +kernel
theorem dX6_findPlaces_13 : decode cX6_findPlaces 13 = .ok (.getfield 37, 3) := by decide +kernel
theorem dX6_findPlaces_16 : decode cX6_findPlaces 16 = .ok (.iload 4, 2) := by decide +kernel
theorem dX6_findPlaces_18 : decode cX6_findPlaces 18 = .ok (.aload_n 1, 1) := by decide +kernel
theorem dX6_findPlaces_19 : decode cX6_findPlaces 19 = .ok (.getfield 76, 3) := by decide +kernel
theorem dX6_findPlaces_22 : decode cX6_findPlaces 22 = .ok (.aload_n 0, 1) := by decide +kernel
theorem dX6_findPlaces_23 : decode cX6_findPlaces 23 = .ok (.getfield 18, 3) := by decide +kernel
theorem dX6_findPlaces_26 : decode cX6_findPlaces 26 = .ok (.iload 4, 2) := by decide +kernel
theorem dX6_findPlaces_28 : decode cX6_findPlaces 28 = .ok (.iaload, 1) := by decide +kernel
theorem dX6_findPlaces_29 : decode cX6_findPlaces 29 = .ok (.laload, 1) := by decide +kernel
theorem dX6_findPlaces_30 : decode cX6_findPlaces 30 = .ok (.aload_n 0, 1) := by decide +kernel
theorem dX6_findPlaces_31 : decode cX6_findPlaces 31 = .ok (.getfield 34, 3) := by decide +kernel
theorem dX6_findPlaces_34 : decode cX6_findPlaces 34 = .ok (.iload 4, 2) := by decide +kernel
theorem dX6_findPlaces_36 : decode cX6_findPlaces 36 = .ok (.iaload, 1) := by decide +kernel
theorem dX6_findPlaces_37 : decode cX6_findPlaces 37 = .ok (.i2l, 1) := by decide +kernel
theorem dX6_findPlaces_38 : decode cX6_findPlaces 38 = .ok (.lload_n 2, 1) := by decide +kernel
theorem dX6_findPlaces_39 : decode cX6_findPlaces 39 = .ok (.lmul, 1) := by decide +kernel
theorem dX6_findPlaces_40 : decode cX6_findPlaces 40 = .ok (.ladd, 1) := by decide +kernel
theorem dX6_findPlaces_41 : decode cX6_findPlaces 41 = .ok (.lastore, 1) := by decide +kernel
theorem dX6_findPlaces_42 : decode cX6_findPlaces 42 = .ok (.iinc 4 1, 3) := by decide +kernel
theorem dX6_findPlaces_45 : decode cX6_findPlaces 45 = .ok (.goto (-42), 3) := by decide +kernel
theorem dX6_findPlaces_48 : decode cX6_findPlaces 48 = .ok (.return_, 1) := by decide +kernel
theorem dX6_unused_0 : decode cX6_unused 0 = .ok (.iconst 0, 1) := by decide +kernel
theorem dX6_unused_1 : decode cX6_unused 1 = .ok (.istore_n 1, 1) := by decide +kernel
theorem dX6_unused_2 : decode cX6_unused 2 = .ok (.iconst 0, 1) := by decide +kernel
theorem dX6_unused_3 : decode cX6_unused 3 = .ok (.istore_n 2, 1) := by decide +kernel
theorem dX6_unused_4 : decode cX6_unused 4 = .ok (.iload_n 2, 1) := by decide +kernel
theorem dX6_unused_5 : decode cX6_unused 5 = .ok (.aload_n 0, 1) := by decide +kernel
theorem dX6_unused_6 : decode cX6_unused 6 = .ok (.getfield 9, 3) := by decide +kernel
theorem dX6_unused_9 : decode cX6_unused 9 = .ok (.if_icmp .ge 21, 3) := by decide +kernel
theorem dX6_unused_12 : decode cX6_unused 12 = .ok (.aload_n 0, 1) := by decide +kernel
theorem dX6_unused_13 : decode cX6_unused 13 = .ok (.getfield 31, 3) := by decide +kernel
theorem dX6_unused_16 : decode cX6_unused 16 = .ok (.iload_n 2, 1) := by decide +kernel
theorem dX6_unused_17 : decode cX6_unused 17 = .ok (.iaload, 1) := by decide +kernel
theorem dX6_unused_18 : decode cX6_unused 18 = .ok (.ifCond .ne 6, 3) := by decide +kernel
theorem dX6_unused_21 : decode cX6_unused 21 = .ok (.iinc 1 1, 3) := by decide +kernel
theorem dX6_unused_24 : decode cX6_unused 24 = .ok (.iinc 2 1, 3) := by decide +kernel
theorem dX6_unused_27 : decode cX6_unused 27 = .ok (.goto (-23), 3) := by decide +kernel
theorem dX6_unused_30 : decode cX6_unused 30 = .ok (.iload_n 1, 1) := by decide +kernel
theorem dX6_unused_31 : decode cX6_unused 31 = .ok (.ireturn, 1) := by decide +kernel
theorem dX7_init_0 : decode cX7_init 0 = .ok (.aload_n 0, 1) := by decide +kernel
theorem dX7_init_1 : decode cX7_init 1 = .ok (.invokespecial 3, 3) := by decide +kernel
theorem dX7_init_4 : decode cX7_init 4 = .ok (.aload_n 0, 1) := by decide +kernel
theorem dX7_init_5 : decode cX7_init 5 = .ok (.new 9, 3) := by decide +kernel
theorem dX7_init_8 : decode cX7_init 8 = .ok (.dup, 1) := by decide +kernel
theorem dX7_init_9 : decode cX7_init 9 = .ok (.invokespecial 11, 3) := by decide +kernel
theorem dX7_init_12 : decode cX7_init 12 = .ok (.putfield 12, 3) := by decide +kernel
theorem dX7_init_15 : decode cX7_init 15 = .ok (.aload_n 0, 1) := by decide +kernel
theorem dX7_init_16 : decode cX7_init 16 = .ok (.new 18, 3) := by decide +kernel
theorem dX7_init_19 : decode cX7_init 19 = .ok (.dup, 1) := by decide +kernel
theorem dX7_init_20 : decode cX7_init 20 = .ok (.invokespecial 20, 3) := by decide +kernel
theorem dX7_init_23 : decode cX7_init 23 = .ok (.putfield 21, 3) := by decide +kernel
theorem dX7_init_26 : decode cX7_init 26 = .ok (.aload_n 0, 1) := by decide +kernel
theorem dX7_init_27 : decode cX7_init 27 = .ok (.new 25, 3) := by decide +kernel
theorem dX7_init_30 : decode cX7_init 30 = .ok (.dup, 1) := by decide +kernel
theorem dX7_init_31 : decode cX7_init 31 = .ok (.invokespecial 27, 3) := by decide +kernel
theorem dX7_init_34 : decode cX7_init 34 = .ok (.putfield 28, 3) := by decide +kernel
theorem dX7_init_37 : decode cX7_init 37 = .ok (.aload_n 0, 1) := by decide +kernel
theorem dX7_init_38 : decode cX7_init 38 = .ok (.new 32, 3) := by decide +kernel
theorem dX7_init_41 : decode cX7_init 41 = .ok (.dup, 1) := by decide +kernel
theorem dX7_init_42 : decode cX7_init 42 = .ok (.invokespecial 34, 3) := by decide +kernel
theorem dX7_init_45 : decode cX7_init 45 = .ok (.putfield 35, 3) := by decide +kernel
theorem dX7_init_48 : decode cX7_init 48 = .ok (.aload_n 0, 1) := by decide +kernel
theorem dX7_init_49 : decode cX7_init 49 = .ok (.iconst 0, 1) := by decide +kernel
theorem dX7_init_50 : decode cX7_init 50 = .ok (.putfield 39, 3) := by decide +kernel
theorem dX7_init_53 : decode cX7_init 53 = .ok (.aload_n 0, 1) := by decide +kernel
theorem dX7_init_54 : decode cX7_init 54 = .ok (.iconst 0, 1) := by decide +kernel
theorem dX7_init_55 : decode cX7_init 55 = .ok (.putfield 43, 3) := by decide +kernel
theorem dX7_init_58 : decode cX7_init 58 = .ok (.aload_n 0, 1) := by decide +kernel
theorem dX7_init_59 : decode cX7_init 59 = .ok (.iconst 1, 1) := by decide +kernel
theorem dX7_init_60 : decode cX7_init 60 = .ok (.putfield 46, 3) := by decide +kernel
theorem dX7_init_63 : decode cX7_init 63 = .ok (.aload_n 0, 1) := by decide +kernel
theorem dX7_init_64 : decode cX7_init 64 = .ok (.iconst (-1), 1) := by decide +kernel
theorem dX7_init_65 : decode cX7_init 65 = .ok (.putfield 49, 3) := by decide +kernel
theorem dX7_init_68 : decode cX7_init 68 = .ok (.return_, 1) := by decide +kernel
theorem dX7_hasThunks_0 : decode cX7_hasThunks 0 = .ok (.aload_n 0, 1) := by decide +kernel
theorem dX7_hasThunks_1 : decode cX7_hasThunks 1 = .ok (.getfield 43, 3) := by decide +kernel
theorem dX7_hasThunks_4 : decode cX7_hasThunks 4 = .ok (.ifCond .le 7, 3) := by decide +kernel
theorem dX7_hasThunks_7 : decode cX7_hasThunks 7 = .ok (.iconst 1, 1) := by decide +kernel
theorem dX7_hasThunks_8 : decode cX7_hasThunks 8 = .ok (.goto 4, 3) := by decide +kernel
theorem dX7_hasThunks_11 : decode cX7_hasThunks 11 = .ok (.iconst 0, 1) := by decide +kernel
theorem dX7_hasThunks_12 : decode cX7_hasThunks 12 = .ok (.ireturn, 1) := by decide +kernel
theorem dX7_tellThunks_0 : decode cX7_tellThunks 0 = .ok (.iload_n 1, 1) := by decide +kernel
theorem dX7_tellThunks_1 : decode cX7_tellThunks 1 = .ok (.iconst 1, 1) := by decide +kernel
theorem dX7_tellThunks_2 : decode cX7_tellThunks 2 = .ok (.if_icmp .lt 30, 3) := by decide +kernel
theorem dX7_tellThunks_5 : decode cX7_tellThunks 5 = .ok (.iload_n 1, 1) := by decide +kernel
theorem dX7_tellThunks_6 : decode cX7_tellThunks 6 = .ok (.bipush 64, 2) := by decide +kernel
theorem dX7_tellThunks_8 : decode cX7_tellThunks 8 = .ok (.if_icmp .gt 24, 3) := by decide +kernel
theorem dX7_tellThunks_11 : decode cX7_tellThunks 11 = .ok (.iload_n 2, 1) := by decide +kernel
theorem dX7_tellThunks_12 : decode cX7_tellThunks 12 = .ok (.ifCond .lt 20, 3) := by decide +kernel
theorem dX7_tellThunks_15 : decode cX7_tellThunks 15 = .ok (.iload_n 2, 1) := by decide +kernel
theorem dX7_tellThunks_16 : decode cX7_tellThunks 16 = .ok (.bipush 6, 2) := by decide +kernel
theorem dX7_tellThunks_18 : decode cX7_tellThunks 18 = .ok (.if_icmp .gt 14, 3) := by decide +kernel
theorem dX7_tellThunks_21 : decode cX7_tellThunks 21 = .ok (.aload_n 0, 1) := by decide +kernel
theorem dX7_tellThunks_22 : decode cX7_tellThunks 22 = .ok (.getfield 28, 3) := by decide +kernel
theorem dX7_tellThunks_25 : decode cX7_tellThunks 25 = .ok (.iload_n 3, 1) := by decide +kernel
theorem dX7_tellThunks_26 : decode cX7_tellThunks 26 = .ok (.invokevirtual 52, 3) := by decide +kernel
theorem dX7_tellThunks_29 : decode cX7_tellThunks 29 = .ok (.ifCond .ne 5, 3) := by decide +kernel
theorem dX7_tellThunks_32 : decode cX7_tellThunks 32 = .ok (.iconst 0, 1) := by decide +kernel
theorem dX7_tellThunks_33 : decode cX7_tellThunks 33 = .ok (.ireturn, 1) := by decide +kernel
theorem dX7_tellThunks_34 : decode cX7_tellThunks 34 = .ok (.aload_n 0, 1) := by decide +kernel
theorem dX7_tellThunks_35 : decode cX7_tellThunks 35 = .ok (.iload_n 1, 1) := by decide +kernel
theorem dX7_tellThunks_36 : decode cX7_tellThunks 36 = .ok (.putfield 43, 3) := by decide +kernel
theorem dX7_tellThunks_39 : decode cX7_tellThunks 39 = .ok (.aload_n 0, 1) := by decide +kernel
theorem dX7_tellThunks_40 : decode cX7_tellThunks 40 = .ok (.iconst 1, 1) := by decide +kernel
theorem dX7_tellThunks_41 : decode cX7_tellThunks 41 = .ok (.iload_n 2, 1) := by decide +kernel
theorem dX7_tellThunks_42 : decode cX7_tellThunks 42 = .ok (.ishl, 1) := by decide +kernel
theorem dX7_tellThunks_43 : decode cX7_tellThunks 43 = .ok (.putfield 46, 3) := by decide +kernel
theorem dX7_tellThunks_46 : decode cX7_tellThunks 46 = .ok (.aload_n 0, 1) := by decide +kernel
theorem dX7_tellThunks_47 : decode cX7_tellThunks 47 = .ok (.iload_n 3, 1) := by decide +kernel
theorem dX7_tellThunks_48 : decode cX7_tellThunks 48 = .ok (.putfield 49, 3) := by decide +kernel
theorem dX7_tellThunks_51 : decode cX7_tellThunks 51 = .ok (.iconst 1, 1) := by decide +kernel
theorem dX7_tellThunks_52 : decode cX7_tellThunks 52 = .ok (.ireturn, 1) := by decide +kernel
theorem dX7_changeSize_0 : decode cX7_changeSize 0 = .ok (.aload_n 0, 1) := by decide +kernel
theorem dX7_changeSize_1 : decode cX7_changeSize 1 = .ok (.getfield 12, 3) := by decide +kernel
theorem dX7_changeSize_4 : decode cX7_changeSize 4 = .ok (.iload_n 1, 1) := by decide +kernel
theorem dX7_changeSize_5 : decode cX7_changeSize 5 = .ok (.invokevirtual 56, 3) := by decide +kernel
theorem dX7_changeSize_8 : decode cX7_changeSize 8 = .ok (.ifCond .eq 10, 3) := by decide +kernel
theorem dX7_changeSize_11 : decode cX7_changeSize 11 = .ok (.iload_n 2, 1) := by decide +kernel
theorem dX7_changeSize_12 : decode cX7_changeSize 12 = .ok (.invokestatic 57, 3) := by decide +kernel
theorem dX7_changeSize_15 : decode cX7_changeSize 15 = .ok (.ifCond .ne 5, 3) := by decide +kernel
theorem dX7_changeSize_18 : decode cX7_changeSize 18 = .ok (.iconst 0, 1) := by decide +kernel
theorem dX7_changeSize_19 : decode cX7_changeSize 19 = .ok (.ireturn, 1) := by decide +kernel
theorem dX7_changeSize_20 : decode cX7_changeSize 20 = .ok (.aload_n 0, 1) := by decide +kernel
theorem dX7_changeSize_21 : decode cX7_changeSize 21 = .ok (.getfield 21, 3) := by decide +kernel
theorem dX7_changeSize_24 : decode cX7_changeSize 24 = .ok (.iload_n 1, 1) := by decide +kernel
theorem dX7_changeSize_25 : decode cX7_changeSize 25 = .ok (.invokevirtual 60, 3) := by decide +kernel
theorem dX7_changeSize_28 : decode cX7_changeSize 28 = .ok (.iload_n 2, 1) := by decide +kernel
theorem dX7_changeSize_29 : decode cX7_changeSize 29 = .ok (.if_icmp .gt 15, 3) := by decide +kernel
theorem dX7_changeSize_32 : decode cX7_changeSize 32 = .ok (.aload_n 0, 1) := by decide +kernel
theorem dX7_changeSize_33 : decode cX7_changeSize 33 = .ok (.getfield 35, 3) := by decide +kernel
theorem dX7_changeSize_36 : decode cX7_changeSize 36 = .ok (.iload_n 1, 1) := by decide +kernel
theorem dX7_changeSize_37 : decode cX7_changeSize 37 = .ok (.invokevirtual 64, 3) := by decide +kernel
theorem dX7_changeSize_40 : decode cX7_changeSize 40 = .ok (.iload_n 2, 1) := by decide +kernel
theorem dX7_changeSize_41 : decode cX7_changeSize 41 = .ok (.if_icmp .lt 5, 3) := by decide +kernel
theorem dX7_changeSize_44 : decode cX7_changeSize 44 = .ok (.iconst 0, 1) := by decide +kernel
theorem dX7_changeSize_45 : decode cX7_changeSize 45 = .ok (.ireturn, 1) := by decide +kernel
theorem dX7_changeSize_46 : decode cX7_changeSize 46 = .ok (.aload_n 0, 1) := by decide +kernel
theorem dX7_changeSize_47 : decode cX7_changeSize 47 = .ok (.getfield 12, 3) := by decide +kernel
theorem dX7_changeSize_50 : decode cX7_changeSize 50 = .ok (.getfield 65, 3) := by decide +kernel
theorem dX7_changeSize_53 : decode cX7_changeSize 53 = .ok (.iload_n 1, 1) := by decide +kernel
theorem dX7_changeSize_54 : decode cX7_changeSize 54 = .ok (.iload_n 2, 1) := by decide +kernel
theorem dX7_changeSize_55 : decode cX7_changeSize 55 = .ok (.iastore, 1) := by decide +kernel
theorem dX7_changeSize_56 : decode cX7_changeSize 56 = .ok (.iconst 1, 1) := by decide +kernel
theorem dX7_changeSize_57 : decode cX7_changeSize 57 = .ok (.ireturn, 1) := by decide +kernel
theorem dX7_thunkStride_0 : decode cX7_thunkStride 0 = .ok (.aload_n 0, 1) := by decide +kernel
theorem dX7_thunkStride_1 : decode cX7_thunkStride 1 = .ok (.getfield 43, 3) := by decide +kernel
theorem dX7_thunkStride_4 : decode cX7_thunkStride 4 = .ok (.i2l, 1) := by decide +kernel
theorem dX7_thunkStride_5 : decode cX7_thunkStride 5 = .ok (.aload_n 0, 1) := by decide +kernel
theorem dX7_thunkStride_6 : decode cX7_thunkStride 6 = .ok (.getfield 46, 3) := by decide +kernel
theorem dX7_thunkStride_9 : decode cX7_thunkStride 9 = .ok (.i2l, 1) := by decide +kernel
theorem dX7_thunkStride_10 : decode cX7_thunkStride 10 = .ok (.invokestatic 69, 3) := by decide +kernel
theorem dX7_thunkStride_13 : decode cX7_thunkStride 13 = .ok (.lreturn, 1) := by decide +kernel
theorem dX7_copyFrom_0 : decode cX7_copyFrom 0 = .ok (.aload_n 0, 1) := by decide +kernel
theorem dX7_copyFrom_1 : decode cX7_copyFrom 1 = .ok (.getfield 12, 3) := by decide +kernel
theorem dX7_copyFrom_4 : decode cX7_copyFrom 4 = .ok (.aload_n 1, 1) := by decide +kernel
theorem dX7_copyFrom_5 : decode cX7_copyFrom 5 = .ok (.getfield 12, 3) := by decide +kernel
theorem dX7_copyFrom_8 : decode cX7_copyFrom 8 = .ok (.invokevirtual 73, 3) := by decide +kernel
theorem dX7_copyFrom_11 : decode cX7_copyFrom 11 = .ok (.aload_n 0, 1) := by decide +kernel
theorem dX7_copyFrom_12 : decode cX7_copyFrom 12 = .ok (.getfield 21, 3) := by decide +kernel
theorem dX7_copyFrom_15 : decode cX7_copyFrom 15 = .ok (.aload_n 1, 1) := by decide +kernel
theorem dX7_copyFrom_16 : decode cX7_copyFrom 16 = .ok (.getfield 21, 3) := by decide +kernel
theorem dX7_copyFrom_19 : decode cX7_copyFrom 19 = .ok (.invokevirtual 77, 3) := by decide +kernel
theorem dX7_copyFrom_22 : decode cX7_copyFrom 22 = .ok (.aload_n 0, 1) := by decide +kernel
theorem dX7_copyFrom_23 : decode cX7_copyFrom 23 = .ok (.getfield 28, 3) := by decide +kernel
theorem dX7_copyFrom_26 : decode cX7_copyFrom 26 = .ok (.aload_n 1, 1) := by decide +kernel
theorem dX7_copyFrom_27 : decode cX7_copyFrom 27 = .ok (.getfield 28, 3) := by decide +kernel
theorem dX7_copyFrom_30 : decode cX7_copyFrom 30 = .ok (.invokevirtual 80, 3) := by decide +kernel
theorem dX7_copyFrom_33 : decode cX7_copyFrom 33 = .ok (.aload_n 0, 1) := by decide +kernel
theorem dX7_copyFrom_34 : decode cX7_copyFrom 34 = .ok (.getfield 35, 3) := by decide +kernel
theorem dX7_copyFrom_37 : decode cX7_copyFrom 37 = .ok (.aload_n 1, 1) := by decide +kernel
theorem dX7_copyFrom_38 : decode cX7_copyFrom 38 = .ok (.getfield 35, 3) := by decide +kernel
theorem dX7_copyFrom_41 : decode cX7_copyFrom 41 = .ok (.invokevirtual 83, 3) := by decide +kernel
theorem dX7_copyFrom_44 : decode cX7_copyFrom 44 = .ok (.aload_n 0, 1) := by decide +kernel
theorem dX7_copyFrom_45 : decode cX7_copyFrom 45 = .ok (.aload_n 1, 1) := by decide +kernel
theorem dX7_copyFrom_46 : decode cX7_copyFrom 46 = .ok (.getfield 39, 3) := by decide +kernel
theorem dX7_copyFrom_49 : decode cX7_copyFrom 49 = .ok (.putfield 39, 3) := by decide +kernel
theorem dX7_copyFrom_52 : decode cX7_copyFrom 52 = .ok (.aload_n 0, 1) := by decide +kernel
theorem dX7_copyFrom_53 : decode cX7_copyFrom 53 = .ok (.aload_n 1, 1) := by decide +kernel
theorem dX7_copyFrom_54 : decode cX7_copyFrom 54 = .ok (.getfield 43, 3) := by decide +kernel
theorem dX7_copyFrom_57 : decode cX7_copyFrom 57 = .ok (.putfield 43, 3) := by decide +kernel
theorem dX7_copyFrom_60 : decode cX7_copyFrom 60 = .ok (.aload_n 0, 1) := by decide +kernel
theorem dX7_copyFrom_61 : decode cX7_copyFrom 61 = .ok (.aload_n 1, 1) := by decide +kernel
theorem dX7_copyFrom_62 : decode cX7_copyFrom 62 = .ok (.getfield 46, 3) := by decide +kernel
theorem dX7_copyFrom_65 : decode cX7_copyFrom 65 = .ok (.putfield 46, 3) := by decide +kernel
theorem dX7_copyFrom_68 : decode cX7_copyFrom 68 = .ok (.aload_n 0, 1) := by decide +kernel
theorem dX7_copyFrom_69 : decode cX7_copyFrom 69 = .ok (.aload_n 1, 1) := by decide +kernel
theorem dX7_copyFrom_70 : decode cX7_copyFrom 70 = .ok (.getfield 49, 3) := by decide +kernel
theorem dX7_copyFrom_73 : decode cX7_copyFrom 73 = .ok (.putfield 49, 3) := by decide +kernel
theorem dX7_copyFrom_76 : decode cX7_copyFrom 76 = .ok (.return_, 1) := by decide +kernel
theorem dX8_init_0 : decode cX8_init 0 = .ok (.aload_n 0, 1) := by decide +kernel
theorem dX8_init_1 : decode cX8_init 1 = .ok (.invokespecial 3, 3) := by decide +kernel
theorem dX8_init_4 : decode cX8_init 4 = .ok (.aload_n 0, 1) := by decide +kernel
theorem dX8_init_5 : decode cX8_init 5 = .ok (.new 9, 3) := by decide +kernel
theorem dX8_init_8 : decode cX8_init 8 = .ok (.dup, 1) := by decide +kernel
theorem dX8_init_9 : decode cX8_init 9 = .ok (.invokespecial 11, 3) := by decide +kernel
theorem dX8_init_12 : decode cX8_init 12 = .ok (.putfield 12, 3) := by decide +kernel
theorem dX8_init_15 : decode cX8_init 15 = .ok (.aload_n 0, 1) := by decide +kernel
theorem dX8_init_16 : decode cX8_init 16 = .ok (.new 16, 3) := by decide +kernel
theorem dX8_init_19 : decode cX8_init 19 = .ok (.dup, 1) := by decide +kernel
theorem dX8_init_20 : decode cX8_init 20 = .ok (.invokespecial 18, 3) := by decide +kernel
theorem dX8_init_23 : decode cX8_init 23 = .ok (.putfield 19, 3) := by decide +kernel
theorem dX8_init_26 : decode cX8_init 26 = .ok (.aload_n 0, 1) := by decide +kernel
theorem dX8_init_27 : decode cX8_init 27 = .ok (.new 23, 3) := by decide +kernel
theorem dX8_init_30 : decode cX8_init 30 = .ok (.dup, 1) := by decide +kernel
theorem dX8_init_31 : decode cX8_init 31 = .ok (.invokespecial 25, 3) := by decide +kernel
theorem dX8_init_34 : decode cX8_init 34 = .ok (.putfield 26, 3) := by decide +kernel
theorem dX8_init_37 : decode cX8_init 37 = .ok (.aload_n 0, 1) := by decide +kernel
theorem dX8_init_38 : decode cX8_init 38 = .ok (.bipush 40, 2) := by decide +kernel
theorem dX8_init_40 : decode cX8_init 40 = .ok (.newarray .int, 2) := by decide +kernel
theorem dX8_init_42 : decode cX8_init 42 = .ok (.putfield 30, 3) := by decide +kernel
theorem dX8_init_45 : decode cX8_init 45 = .ok (.aload_n 0, 1) := by decide +kernel
theorem dX8_init_46 : decode cX8_init 46 = .ok (.iconst 0, 1) := by decide +kernel
theorem dX8_init_47 : decode cX8_init 47 = .ok (.putfield 34, 3) := by decide +kernel
theorem dX8_init_50 : decode cX8_init 50 = .ok (.return_, 1) := by decide +kernel
theorem dX8_section_0 : decode cX8_section 0 = .ok (.aload_n 0, 1) := by decide +kernel
theorem dX8_section_1 : decode cX8_section 1 = .ok (.aload_n 0, 1) := by decide +kernel
theorem dX8_section_2 : decode cX8_section 2 = .ok (.getfield 12, 3) := by decide +kernel
theorem dX8_section_5 : decode cX8_section 5 = .ok (.getfield 38, 3) := by decide +kernel
theorem dX8_section_8 : decode cX8_section 8 = .ok (.iload_n 1, 1) := by decide +kernel
theorem dX8_section_9 : decode cX8_section 9 = .ok (.iload_n 2, 1) := by decide +kernel
theorem dX8_section_10 : decode cX8_section 10 = .ok (.iload_n 3, 1) := by decide +kernel
theorem dX8_section_11 : decode cX8_section 11 = .ok (.invokevirtual 42, 3) := by decide +kernel
theorem dX8_section_14 : decode cX8_section 14 = .ok (.invokevirtual 48, 3) := by decide +kernel
theorem dX8_section_17 : decode cX8_section 17 = .ok (.ireturn, 1) := by decide +kernel
theorem dX8_label_0 : decode cX8_label 0 = .ok (.aload_n 0, 1) := by decide +kernel
theorem dX8_label_1 : decode cX8_label 1 = .ok (.getfield 12, 3) := by decide +kernel
theorem dX8_label_4 : decode cX8_label 4 = .ok (.getfield 38, 3) := by decide +kernel
theorem dX8_label_7 : decode cX8_label 7 = .ok (.iload_n 1, 1) := by decide +kernel
theorem dX8_label_8 : decode cX8_label 8 = .ok (.invokevirtual 52, 3) := by decide +kernel
theorem dX8_label_11 : decode cX8_label 11 = .ok (.ifCond .ne 5, 3) := by decide +kernel
theorem dX8_label_14 : decode cX8_label 14 = .ok (.iconst (-1), 1) := by decide +kernel
theorem dX8_label_15 : decode cX8_label 15 = .ok (.ireturn, 1) := by decide +kernel
theorem dX8_label_16 : decode cX8_label 16 = .ok (.iload_n 2, 1) := by decide +kernel
theorem dX8_label_17 : decode cX8_label 17 = .ok (.ifCond .lt 19, 3) := by decide +kernel
theorem dX8_label_20 : decode cX8_label 20 = .ok (.iload_n 2, 1) := by decide +kernel
theorem dX8_label_21 : decode cX8_label 21 = .ok (.aload_n 0, 1) := by decide +kernel
theorem dX8_label_22 : decode cX8_label 22 = .ok (.getfield 12, 3) := by decide +kernel
theorem dX8_label_25 : decode cX8_label 25 = .ok (.getfield 38, 3) := by decide +kernel
theorem dX8_label_28 : decode cX8_label 28 = .ok (.getfield 56, 3) := by decide +kernel
theorem dX8_label_31 : decode cX8_label 31 = .ok (.iload_n 1, 1) := by decide +kernel
theorem dX8_label_32 : decode cX8_label 32 = .ok (.iaload, 1) := by decide +kernel
theorem dX8_label_33 : decode cX8_label 33 = .ok (.if_icmp .le 5, 3) := by decide +kernel
theorem dX8_label_36 : decode cX8_label 36 = .ok (.iconst (-1), 1) := by decide +kernel
theorem dX8_label_37 : decode cX8_label 37 = .ok (.ireturn, 1) := by decide +kernel
theorem dX8_label_38 : decode cX8_label 38 = .ok (.aload_n 0, 1) := by decide +kernel
theorem dX8_label_39 : decode cX8_label 39 = .ok (.aload_n 0, 1) := by decide +kernel
theorem dX8_label_40 : decode cX8_label 40 = .ok (.getfield 12, 3) := by decide +kernel
theorem dX8_label_43 : decode cX8_label 43 = .ok (.getfield 59, 3) := by decide +kernel
theorem dX8_label_46 : decode cX8_label 46 = .ok (.iload_n 1, 1) := by decide +kernel
theorem dX8_label_47 : decode cX8_label 47 = .ok (.iload_n 2, 1) := by decide +kernel
theorem dX8_label_48 : decode cX8_label 48 = .ok (.invokevirtual 63, 3) := by decide +kernel
theorem dX8_label_51 : decode cX8_label 51 = .ok (.invokevirtual 48, 3) := by decide +kernel
theorem dX8_label_54 : decode cX8_label 54 = .ok (.ireturn, 1) := by decide +kernel
theorem dX8_kind_0 : decode cX8_kind 0 = .ok (.aload_n 0, 1) := by decide +kernel
theorem dX8_kind_1 : decode cX8_kind 1 = .ok (.aload_n 0, 1) := by decide +kernel
theorem dX8_kind_2 : decode cX8_kind 2 = .ok (.getfield 12, 3) := by decide +kernel
theorem dX8_kind_5 : decode cX8_kind 5 = .ok (.getfield 68, 3) := by decide +kernel
theorem dX8_kind_8 : decode cX8_kind 8 = .ok (.iload_n 1, 1) := by decide +kernel
theorem dX8_kind_9 : decode cX8_kind 9 = .ok (.iload_n 2, 1) := by decide +kernel
theorem dX8_kind_10 : decode cX8_kind 10 = .ok (.iload_n 3, 1) := by decide +kernel
theorem dX8_kind_11 : decode cX8_kind 11 = .ok (.invokevirtual 72, 3) := by decide +kernel
theorem dX8_kind_14 : decode cX8_kind 14 = .ok (.invokevirtual 78, 3) := by decide +kernel
theorem dX8_kind_17 : decode cX8_kind 17 = .ok (.ireturn, 1) := by decide +kernel
theorem dX8_branch_0 : decode cX8_branch 0 = .ok (.aload_n 0, 1) := by decide +kernel
theorem dX8_branch_1 : decode cX8_branch 1 = .ok (.getfield 12, 3) := by decide +kernel
theorem dX8_branch_4 : decode cX8_branch 4 = .ok (.getfield 38, 3) := by decide +kernel
theorem dX8_branch_7 : decode cX8_branch 7 = .ok (.iload_n 1, 1) := by decide +kernel
theorem dX8_branch_8 : decode cX8_branch 8 = .ok (.invokevirtual 52, 3) := by decide +kernel
theorem dX8_branch_11 : decode cX8_branch 11 = .ok (.ifCond .eq 32, 3) := by decide +kernel
theorem dX8_branch_14 : decode cX8_branch 14 = .ok (.aload_n 0, 1) := by decide +kernel
theorem dX8_branch_15 : decode cX8_branch 15 = .ok (.getfield 12, 3) := by decide +kernel
theorem dX8_branch_18 : decode cX8_branch 18 = .ok (.getfield 68, 3) := by decide +kernel
theorem dX8_branch_21 : decode cX8_branch 21 = .ok (.iload_n 3, 1) := by decide +kernel
theorem dX8_branch_22 : decode cX8_branch 22 = .ok (.invokevirtual 82, 3) := by decide +kernel
theorem dX8_branch_25 : decode cX8_branch 25 = .ok (.ifCond .eq 18, 3) := by decide +kernel
theorem dX8_branch_28 : decode cX8_branch 28 = .ok (.aload_n 0, 1) := by decide +kernel
theorem dX8_branch_29 : decode cX8_branch 29 = .ok (.getfield 12, 3) := by decide +kernel
theorem dX8_branch_32 : decode cX8_branch 32 = .ok (.getfield 59, 3) := by decide +kernel
theorem dX8_branch_35 : decode cX8_branch 35 = .ok (.iload 4, 2) := by decide +kernel
theorem dX8_branch_37 : decode cX8_branch 37 = .ok (.invokevirtual 83, 3) := by decide +kernel
theorem dX8_branch_40 : decode cX8_branch 40 = .ok (.ifCond .ne 5, 3) := by decide +kernel
theorem dX8_branch_43 : decode cX8_branch 43 = .ok (.iconst (-1), 1) := by decide +kernel
theorem dX8_branch_44 : decode cX8_branch 44 = .ok (.ireturn, 1) := by decide +kernel
theorem dX8_branch_45 : decode cX8_branch 45 = .ok (.iload_n 2, 1) := by decide +kernel
theorem dX8_branch_46 : decode cX8_branch 46 = .ok (.ifCond .lt 19, 3) := by decide +kernel
theorem dX8_branch_49 : decode cX8_branch 49 = .ok (.iload_n 2, 1) := by decide +kernel
theorem dX8_branch_50 : decode cX8_branch 50 = .ok (.aload_n 0, 1) := by decide +kernel
theorem dX8_branch_51 : decode cX8_branch 51 = .ok (.getfield 12, 3) := by decide +kernel
theorem dX8_branch_54 : decode cX8_branch 54 = .ok (.getfield 38, 3) := by decide +kernel
theorem dX8_branch_57 : decode cX8_branch 57 = .ok (.getfield 56, 3) := by decide +kernel
theorem dX8_branch_60 : decode cX8_branch 60 = .ok (.iload_n 1, 1) := by decide +kernel
theorem dX8_branch_61 : decode cX8_branch 61 = .ok (.iaload, 1) := by decide +kernel
theorem dX8_branch_62 : decode cX8_branch 62 = .ok (.if_icmp .lt 5, 3) := by decide +kernel
theorem dX8_branch_65 : decode cX8_branch 65 = .ok (.iconst (-1), 1) := by decide +kernel
theorem dX8_branch_66 : decode cX8_branch 66 = .ok (.ireturn, 1) := by decide +kernel
theorem dX8_branch_67 : decode cX8_branch 67 = .ok (.aload_n 0, 1) := by decide +kernel
theorem dX8_branch_68 : decode cX8_branch 68 = .ok (.aload_n 0, 1) := by decide +kernel
theorem dX8_branch_69 : decode cX8_branch 69 = .ok (.getfield 12, 3) := by decide +kernel
theorem dX8_branch_72 : decode cX8_branch 72 = .ok (.getfield 84, 3) := by decide +kernel
theorem dX8_branch_75 : decode cX8_branch 75 = .ok (.iload_n 1, 1) := by decide +kernel
theorem dX8_branch_76 : decode cX8_branch 76 = .ok (.iload_n 2, 1) := by decide +kernel
theorem dX8_branch_77 : decode cX8_branch 77 = .ok (.iload_n 3, 1) := by decide +kernel
theorem dX8_branch_78 : decode cX8_branch 78 = .ok (.iload 4, 2) := by decide +kernel
theorem dX8_branch_80 : decode cX8_branch 80 = .ok (.invokevirtual 88, 3) := by decide +kernel
theorem dX8_branch_83 : decode cX8_branch 83 = .ok (.invokevirtual 48, 3) := by decide +kernel
theorem dX8_branch_86 : decode cX8_branch 86 = .ok (.ireturn, 1) := by decide +kernel
theorem dX8_thunks_0 : decode cX8_thunks 0 = .ok (.aload_n 0, 1) := by decide +kernel
theorem dX8_thunks_1 : decode cX8_thunks 1 = .ok (.aload_n 0, 1) := by decide +kernel
theorem dX8_thunks_2 : decode cX8_thunks 2 = .ok (.getfield 12, 3) := by decide +kernel
theorem dX8_thunks_5 : decode cX8_thunks 5 = .ok (.iload_n 1, 1) := by decide +kernel
theorem dX8_thunks_6 : decode cX8_thunks 6 = .ok (.iload_n 2, 1) := by decide +kernel
theorem dX8_thunks_7 : decode cX8_thunks 7 = .ok (.iload_n 3, 1) := by decide +kernel
theorem dX8_thunks_8 : decode cX8_thunks 8 = .ok (.invokevirtual 93, 3) := by decide +kernel
theorem dX8_thunks_11 : decode cX8_thunks 11 = .ok (.invokevirtual 78, 3) := by decide +kernel
theorem dX8_thunks_14 : decode cX8_thunks 14 = .ok (.ireturn, 1) := by decide +kernel
theorem dX8_base_0 : decode cX8_base 0 = .ok (.iload_n 1, 1) := by decide +kernel
theorem dX8_base_1 : decode cX8_base 1 = .ok (.ifCond .ge 5, 3) := by decide +kernel
theorem dX8_base_4 : decode cX8_base 4 = .ok (.iconst 0, 1) := by decide +kernel
theorem dX8_base_5 : decode cX8_base 5 = .ok (.ireturn, 1) := by decide +kernel
theorem dX8_base_6 : decode cX8_base 6 = .ok (.aload_n 0, 1) := by decide +kernel
theorem dX8_base_7 : decode cX8_base 7 = .ok (.getfield 12, 3) := by decide +kernel
theorem dX8_base_10 : decode cX8_base 10 = .ok (.iload_n 1, 1) := by decide +kernel
theorem dX8_base_11 : decode cX8_base 11 = .ok (.putfield 96, 3) := by decide +kernel
theorem dX8_base_14 : decode cX8_base 14 = .ok (.aload_n 0, 1) := by decide +kernel
theorem dX8_base_15 : decode cX8_base 15 = .ok (.iconst 1, 1) := by decide +kernel
theorem dX8_base_16 : decode cX8_base 16 = .ok (.invokevirtual 78, 3) := by decide +kernel
theorem dX8_base_19 : decode cX8_base 19 = .ok (.ireturn, 1) := by decide +kernel
theorem dX8_resize_0 : decode cX8_resize 0 = .ok (.aload_n 0, 1) := by decide +kernel
theorem dX8_resize_1 : decode cX8_resize 1 = .ok (.aload_n 0, 1) := by decide +kernel
theorem dX8_resize_2 : decode cX8_resize 2 = .ok (.getfield 12, 3) := by decide +kernel
theorem dX8_resize_5 : decode cX8_resize 5 = .ok (.iload_n 1, 1) := by decide +kernel
theorem dX8_resize_6 : decode cX8_resize 6 = .ok (.iload_n 2, 1) := by decide +kernel
theorem dX8_resize_7 : decode cX8_resize 7 = .ok (.invokevirtual 100, 3) := by decide +kernel
theorem dX8_resize_10 : decode cX8_resize 10 = .ok (.invokevirtual 78, 3) := by decide +kernel
theorem dX8_resize_13 : decode cX8_resize 13 = .ok (.ireturn, 1) := by decide +kernel
theorem dX8_retarget_0 : decode cX8_retarget 0 = .ok (.aload_n 0, 1) := by decide +kernel
theorem dX8_retarget_1 : decode cX8_retarget 1 = .ok (.getfield 12, 3) := by decide +kernel
theorem dX8_retarget_4 : decode cX8_retarget 4 = .ok (.getfield 84, 3) := by decide +kernel
theorem dX8_retarget_7 : decode cX8_retarget 7 = .ok (.iload_n 1, 1) := by decide +kernel
theorem dX8_retarget_8 : decode cX8_retarget 8 = .ok (.invokevirtual 104, 3) := by decide +kernel
theorem dX8_retarget_11 : decode cX8_retarget 11 = .ok (.ifCond .eq 17, 3) := by decide +kernel
theorem dX8_retarget_14 : decode cX8_retarget 14 = .ok (.aload_n 0, 1) := by decide +kernel
theorem dX8_retarget_15 : decode cX8_retarget 15 = .ok (.getfield 12, 3) := by decide +kernel
theorem dX8_retarget_18 : decode cX8_retarget 18 = .ok (.getfield 59, 3) := by decide +kernel
theorem dX8_retarget_21 : decode cX8_retarget 21 = .ok (.iload_n 2, 1) := by decide +kernel
theorem dX8_retarget_22 : decode cX8_retarget 22 = .ok (.invokevirtual 83, 3) := by decide +kernel
theorem dX8_retarget_25 : decode cX8_retarget 25 = .ok (.ifCond .ne 5, 3) := by decide +kernel
theorem dX8_retarget_28 : decode cX8_retarget 28 = .ok (.iconst 0, 1) := by decide +kernel
theorem dX8_retarget_29 : decode cX8_retarget 29 = .ok (.ireturn, 1) := by decide +kernel
theorem dX8_retarget_30 : decode cX8_retarget 30 = .ok (.aload_n 0, 1) := by decide +kernel
theorem dX8_retarget_31 : decode cX8_retarget 31 = .ok (.getfield 12, 3) := by decide +kernel
theorem dX8_retarget_34 : decode cX8_retarget 34 = .ok (.getfield 84, 3) := by decide +kernel
theorem dX8_retarget_37 : decode cX8_retarget 37 = .ok (.getfield 105, 3) := by decide +kernel
theorem dX8_retarget_40 : decode cX8_retarget 40 = .ok (.iload_n 1, 1) := by decide +kernel
theorem dX8_retarget_41 : decode cX8_retarget 41 = .ok (.iload_n 2, 1) := by decide +kernel
theorem dX8_retarget_42 : decode cX8_retarget 42 = .ok (.iastore, 1) := by decide +kernel
theorem dX8_retarget_43 : decode cX8_retarget 43 = .ok (.aload_n 0, 1) := by decide +kernel
theorem dX8_retarget_44 : decode cX8_retarget 44 = .ok (.iconst 1, 1) := by decide +kernel
theorem dX8_retarget_45 : decode cX8_retarget 45 = .ok (.invokevirtual 78, 3) := by decide +kernel
theorem dX8_retarget_48 : decode cX8_retarget 48 = .ok (.ireturn, 1) := by decide +kernel
theorem dX8_lay_0 : decode cX8_lay 0 = .ok (.aload_n 0, 1) := by decide +kernel
theorem dX8_lay_1 : decode cX8_lay 1 = .ok (.getfield 19, 3) := by decide +kernel
theorem dX8_lay_4 : decode cX8_lay 4 = .ok (.aload_n 0, 1) := by decide +kernel
theorem dX8_lay_5 : decode cX8_lay 5 = .ok (.getfield 12, 3) := by decide +kernel
theorem dX8_lay_8 : decode cX8_lay 8 = .ok (.invokevirtual 108, 3) := by decide +kernel
theorem dX8_lay_11 : decode cX8_lay 11 = .ok (.aload_n 0, 1) := by decide +kernel
theorem dX8_lay_12 : decode cX8_lay 12 = .ok (.iconst 0, 1) := by decide +kernel
theorem dX8_lay_13 : decode cX8_lay 13 = .ok (.putfield 34, 3) := by decide +kernel
theorem dX8_lay_16 : decode cX8_lay 16 = .ok (.aload_n 0, 1) := by decide +kernel
theorem dX8_lay_17 : decode cX8_lay 17 = .ok (.getfield 19, 3) := by decide +kernel
theorem dX8_lay_20 : decode cX8_lay 20 = .ok (.getfield 112, 3) := by decide +kernel
theorem dX8_lay_23 : decode cX8_lay 23 = .ok (.ireturn, 1) := by decide +kernel
theorem dX8_count_0 : decode cX8_count 0 = .ok (.iload_n 1, 1) := by decide +kernel
theorem dX8_count_1 : decode cX8_count 1 = .ok (.tableswitch 202 0 14 #[75, 83, 94, 102, 110, 118, 129, 137, 202, 202, 145, 156, 167, 178, 189], 75) := by decide +kernel
theorem dX8_count_76 : decode cX8_count 76 = .ok (.aload_n 0, 1) := by decide +kernel
theorem dX8_count_77 : decode cX8_count 77 = .ok (.getfield 19, 3) := by decide +kernel
theorem dX8_count_80 : decode cX8_count 80 = .ok (.getfield 115, 3) := by decide +kernel
theorem dX8_count_83 : decode cX8_count 83 = .ok (.ireturn, 1) := by decide +kernel
theorem dX8_count_84 : decode cX8_count 84 = .ok (.aload_n 0, 1) := by decide +kernel
theorem dX8_count_85 : decode cX8_count 85 = .ok (.getfield 19, 3) := by decide +kernel
theorem dX8_count_88 : decode cX8_count 88 = .ok (.getfield 118, 3) := by decide +kernel
theorem dX8_count_91 : decode cX8_count 91 = .ok (.getfield 122, 3) := by decide +kernel
theorem dX8_count_94 : decode cX8_count 94 = .ok (.ireturn, 1) := by decide +kernel
theorem dX8_count_95 : decode cX8_count 95 = .ok (.aload_n 0, 1) := by decide +kernel
theorem dX8_count_96 : decode cX8_count 96 = .ok (.getfield 19, 3) := by decide +kernel
theorem dX8_count_99 : decode cX8_count 99 = .ok (.getfield 127, 3) := by decide +kernel
theorem dX8_count_102 : decode cX8_count 102 = .ok (.ireturn, 1) := by decide +kernel
theorem dX8_count_103 : decode cX8_count 103 = .ok (.aload_n 0, 1) := by decide +kernel
theorem dX8_count_104 : decode cX8_count 104 = .ok (.getfield 19, 3) := by decide +kernel
theorem dX8_count_107 : decode cX8_count 107 = .ok (.getfield 130, 3) := by decide +kernel
theorem dX8_count_110 : decode cX8_count 110 = .ok (.ireturn, 1) := by decide +kernel
theorem dX8_count_111 : decode cX8_count 111 = .ok (.aload_n 0, 1) := by decide +kernel
theorem dX8_count_112 : decode cX8_count 112 = .ok (.getfield 19, 3) := by decide +kernel
theorem dX8_count_115 : decode cX8_count 115 = .ok (.getfield 112, 3) := by decide +kernel
theorem dX8_count_118 : decode cX8_count 118 = .ok (.ireturn, 1) := by decide +kernel
theorem dX8_count_119 : decode cX8_count 119 = .ok (.aload_n 0, 1) := by decide +kernel
theorem dX8_count_120 : decode cX8_count 120 = .ok (.getfield 19, 3) := by decide +kernel
theorem dX8_count_123 : decode cX8_count 123 = .ok (.getfield 118, 3) := by decide +kernel
theorem dX8_count_126 : decode cX8_count 126 = .ok (.invokevirtual 133, 3) := by decide +kernel
theorem dX8_count_129 : decode cX8_count 129 = .ok (.ireturn, 1) := by decide +kernel
theorem dX8_count_130 : decode cX8_count 130 = .ok (.aload_n 0, 1) := by decide +kernel
theorem dX8_count_131 : decode cX8_count 131 = .ok (.getfield 19, 3) := by decide +kernel
theorem dX8_count_134 : decode cX8_count 134 = .ok (.invokevirtual 137, 3) := by decide +kernel
theorem dX8_count_137 : decode cX8_count 137 = .ok (.ireturn, 1) := by decide +kernel
theorem dX8_count_138 : decode cX8_count 138 = .ok (.aload_n 0, 1) := by decide +kernel
theorem dX8_count_139 : decode cX8_count 139 = .ok (.getfield 19, 3) := by decide +kernel
theorem dX8_count_142 : decode cX8_count 142 = .ok (.invokevirtual 140, 3) := by decide +kernel
theorem dX8_count_145 : decode cX8_count 145 = .ok (.ireturn, 1) := by decide +kernel
theorem dX8_count_146 : decode cX8_count 146 = .ok (.aload_n 0, 1) := by decide +kernel
theorem dX8_count_147 : decode cX8_count 147 = .ok (.getfield 12, 3) := by decide +kernel
theorem dX8_count_150 : decode cX8_count 150 = .ok (.getfield 38, 3) := by decide +kernel
theorem dX8_count_153 : decode cX8_count 153 = .ok (.getfield 143, 3) := by decide +kernel
theorem dX8_count_156 : decode cX8_count 156 = .ok (.ireturn, 1) := by decide +kernel
theorem dX8_count_157 : decode cX8_count 157 = .ok (.aload_n 0, 1) := by decide +kernel
theorem dX8_count_158 : decode cX8_count 158 = .ok (.getfield 12, 3) := by decide +kernel
theorem dX8_count_161 : decode cX8_count 161 = .ok (.getfield 59, 3) := by decide +kernel
theorem dX8_count_164 : decode cX8_count 164 = .ok (.getfield 146, 3) := by decide +kernel
theorem dX8_count_167 : decode cX8_count 167 = .ok (.ireturn, 1) := by decide +kernel
theorem dX8_count_168 : decode cX8_count 168 = .ok (.aload_n 0, 1) := by decide +kernel
theorem dX8_count_169 : decode cX8_count 169 = .ok (.getfield 12, 3) := by decide +kernel
theorem dX8_count_172 : decode cX8_count 172 = .ok (.getfield 84, 3) := by decide +kernel
theorem dX8_count_175 : decode cX8_count 175 = .ok (.getfield 147, 3) := by decide +kernel
theorem dX8_count_178 : decode cX8_count 178 = .ok (.ireturn, 1) := by decide +kernel
theorem dX8_count_179 : decode cX8_count 179 = .ok (.aload_n 0, 1) := by decide +kernel
theorem dX8_count_180 : decode cX8_count 180 = .ok (.getfield 12, 3) := by decide +kernel
theorem dX8_count_183 : decode cX8_count 183 = .ok (.getfield 38, 3) := by decide +kernel
theorem dX8_count_186 : decode cX8_count 186 = .ok (.getfield 148, 3) := by decide +kernel
theorem dX8_count_189 : decode cX8_count 189 = .ok (.ireturn, 1) := by decide +kernel
theorem dX8_count_190 : decode cX8_count 190 = .ok (.aload_n 0, 1) := by decide +kernel
theorem dX8_count_191 : decode cX8_count 191 = .ok (.getfield 34, 3) := by decide +kernel
theorem dX8_count_194 : decode cX8_count 194 = .ok (.ifCond .eq 7, 3) := by decide +kernel
theorem dX8_count_197 : decode cX8_count 197 = .ok (.iconst 1, 1) := by decide +kernel
theorem dX8_count_198 : decode cX8_count 198 = .ok (.goto 4, 3) := by decide +kernel
theorem dX8_count_201 : decode cX8_count 201 = .ok (.iconst 0, 1) := by decide +kernel
theorem dX8_count_202 : decode cX8_count 202 = .ok (.ireturn, 1) := by decide +kernel
theorem dX8_count_203 : decode cX8_count 203 = .ok (.iconst (-1), 1) := by decide +kernel
theorem dX8_count_204 : decode cX8_count 204 = .ok (.ireturn, 1) := by decide +kernel
theorem dX8_address_0 : decode cX8_address 0 = .ok (.iload_n 1, 1) := by decide +kernel
theorem dX8_address_1 : decode cX8_address 1 = .ok (.tableswitch 204 0 4 #[35, 71, 103, 135, 168], 35) := by decide +kernel
theorem dX8_address_36 : decode cX8_address 36 = .ok (.aload_n 0, 1) := by decide +kernel
theorem dX8_address_37 : decode cX8_address 37 = .ok (.getfield 19, 3) := by decide +kernel
theorem dX8_address_40 : decode cX8_address 40 = .ok (.getfield 151, 3) := by decide +kernel
theorem dX8_address_43 : decode cX8_address 43 = .ok (.getfield 38, 3) := by decide +kernel
theorem dX8_address_46 : decode cX8_address 46 = .ok (.iload_n 2, 1) := by decide +kernel
theorem dX8_address_47 : decode cX8_address 47 = .ok (.invokevirtual 52, 3) := by decide +kernel
theorem dX8_address_50 : decode cX8_address 50 = .ok (.ifCond .eq 18, 3) := by decide +kernel
theorem dX8_address_53 : decode cX8_address 53 = .ok (.aload_n 0, 1) := by decide +kernel
theorem dX8_address_54 : decode cX8_address 54 = .ok (.getfield 19, 3) := by decide +kernel
theorem dX8_address_57 : decode cX8_address 57 = .ok (.getfield 152, 3) := by decide +kernel
theorem dX8_address_60 : decode cX8_address 60 = .ok (.getfield 155, 3) := by decide +kernel
theorem dX8_address_63 : decode cX8_address 63 = .ok (.iload_n 2, 1) := by decide +kernel
theorem dX8_address_64 : decode cX8_address 64 = .ok (.laload, 1) := by decide +kernel
theorem dX8_address_65 : decode cX8_address 65 = .ok (.goto 6, 3) := by decide +kernel
theorem dX8_address_68 : decode cX8_address 68 = .ok (.ldc2_w 159, 3) := by decide +kernel
theorem dX8_address_71 : decode cX8_address 71 = .ok (.lreturn, 1) := by decide +kernel
theorem dX8_address_72 : decode cX8_address 72 = .ok (.aload_n 0, 1) := by decide +kernel
theorem dX8_address_73 : decode cX8_address 73 = .ok (.getfield 19, 3) := by decide +kernel
theorem dX8_address_76 : decode cX8_address 76 = .ok (.getfield 151, 3) := by decide +kernel
theorem dX8_address_79 : decode cX8_address 79 = .ok (.getfield 59, 3) := by decide +kernel
theorem dX8_address_82 : decode cX8_address 82 = .ok (.iload_n 2, 1) := by decide +kernel
theorem dX8_address_83 : decode cX8_address 83 = .ok (.invokevirtual 83, 3) := by decide +kernel
theorem dX8_address_86 : decode cX8_address 86 = .ok (.ifCond .eq 14, 3) := by decide +kernel
theorem dX8_address_89 : decode cX8_address 89 = .ok (.aload_n 0, 1) := by decide +kernel
theorem dX8_address_90 : decode cX8_address 90 = .ok (.getfield 19, 3) := by decide +kernel
theorem dX8_address_93 : decode cX8_address 93 = .ok (.iload_n 2, 1) := by decide +kernel
theorem dX8_address_94 : decode cX8_address 94 = .ok (.invokevirtual 161, 3) := by decide +kernel
theorem dX8_address_97 : decode cX8_address 97 = .ok (.goto 6, 3) := by decide +kernel
theorem dX8_address_100 : decode cX8_address 100 = .ok (.ldc2_w 159, 3) := by decide +kernel
theorem dX8_address_103 : decode cX8_address 103 = .ok (.lreturn, 1) := by decide +kernel
theorem dX8_address_104 : decode cX8_address 104 = .ok (.aload_n 0, 1) := by decide +kernel
theorem dX8_address_105 : decode cX8_address 105 = .ok (.getfield 19, 3) := by decide +kernel
theorem dX8_address_108 : decode cX8_address 108 = .ok (.getfield 151, 3) := by decide +kernel
theorem dX8_address_111 : decode cX8_address 111 = .ok (.getfield 84, 3) := by decide +kernel
theorem dX8_address_114 : decode cX8_address 114 = .ok (.iload_n 2, 1) := by decide +kernel
theorem dX8_address_115 : decode cX8_address 115 = .ok (.invokevirtual 104, 3) := by decide +kernel
theorem dX8_address_118 : decode cX8_address 118 = .ok (.ifCond .eq 14, 3) := by decide +kernel
theorem dX8_address_121 : decode cX8_address 121 = .ok (.aload_n 0, 1) := by decide +kernel
theorem dX8_address_122 : decode cX8_address 122 = .ok (.getfield 19, 3) := by decide +kernel
theorem dX8_address_125 : decode cX8_address 125 = .ok (.iload_n 2, 1) := by decide +kernel
theorem dX8_address_126 : decode cX8_address 126 = .ok (.invokevirtual 165, 3) := by decide +kernel
theorem dX8_address_129 : decode cX8_address 129 = .ok (.goto 6, 3) := by decide +kernel
theorem dX8_address_132 : decode cX8_address 132 = .ok (.ldc2_w 159, 3) := by decide +kernel
theorem dX8_address_135 : decode cX8_address 135 = .ok (.lreturn, 1) := by decide +kernel
theorem dX8_address_136 : decode cX8_address 136 = .ok (.aload_n 0, 1) := by decide +kernel
theorem dX8_address_137 : decode cX8_address 137 = .ok (.getfield 19, 3) := by decide +kernel
theorem dX8_address_140 : decode cX8_address 140 = .ok (.getfield 118, 3) := by decide +kernel
theorem dX8_address_143 : decode cX8_address 143 = .ok (.iload_n 2, 1) := by decide +kernel
theorem dX8_address_144 : decode cX8_address 144 = .ok (.invokevirtual 168, 3) := by decide +kernel
theorem dX8_address_147 : decode cX8_address 147 = .ok (.ifCond .eq 18, 3) := by decide +kernel
theorem dX8_address_150 : decode cX8_address 150 = .ok (.aload_n 0, 1) := by decide +kernel
theorem dX8_address_151 : decode cX8_address 151 = .ok (.getfield 19, 3) := by decide +kernel
theorem dX8_address_154 : decode cX8_address 154 = .ok (.getfield 118, 3) := by decide +kernel
theorem dX8_address_157 : decode cX8_address 157 = .ok (.getfield 169, 3) := by decide +kernel
theorem dX8_address_160 : decode cX8_address 160 = .ok (.iload_n 2, 1) := by decide +kernel
theorem dX8_address_161 : decode cX8_address 161 = .ok (.laload, 1) := by decide +kernel
theorem dX8_address_162 : decode cX8_address 162 = .ok (.goto 6, 3) := by decide +kernel
theorem dX8_address_165 : decode cX8_address 165 = .ok (.ldc2_w 159, 3) := by decide +kernel
theorem dX8_address_168 : decode cX8_address 168 = .ok (.lreturn, 1) := by decide +kernel
theorem dX8_address_169 : decode cX8_address 169 = .ok (.aload_n 0, 1) := by decide +kernel
theorem dX8_address_170 : decode cX8_address 170 = .ok (.getfield 19, 3) := by decide +kernel
theorem dX8_address_173 : decode cX8_address 173 = .ok (.getfield 151, 3) := by decide +kernel
theorem dX8_address_176 : decode cX8_address 176 = .ok (.getfield 38, 3) := by decide +kernel
theorem dX8_address_179 : decode cX8_address 179 = .ok (.iload_n 2, 1) := by decide +kernel
theorem dX8_address_180 : decode cX8_address 180 = .ok (.invokevirtual 172, 3) := by decide +kernel
theorem dX8_address_183 : decode cX8_address 183 = .ok (.ifCond .eq 18, 3) := by decide +kernel
theorem dX8_address_186 : decode cX8_address 186 = .ok (.aload_n 0, 1) := by decide +kernel
theorem dX8_address_187 : decode cX8_address 187 = .ok (.getfield 19, 3) := by decide +kernel
theorem dX8_address_190 : decode cX8_address 190 = .ok (.getfield 152, 3) := by decide +kernel
theorem dX8_address_193 : decode cX8_address 193 = .ok (.getfield 175, 3) := by decide +kernel
theorem dX8_address_196 : decode cX8_address 196 = .ok (.iload_n 2, 1) := by decide +kernel
theorem dX8_address_197 : decode cX8_address 197 = .ok (.laload, 1) := by decide +kernel
theorem dX8_address_198 : decode cX8_address 198 = .ok (.goto 6, 3) := by decide +kernel
theorem dX8_address_201 : decode cX8_address 201 = .ok (.ldc2_w 159, 3) := by decide +kernel
theorem dX8_address_204 : decode cX8_address 204 = .ok (.lreturn, 1) := by decide +kernel
theorem dX8_address_205 : decode cX8_address 205 = .ok (.ldc2_w 159, 3) := by decide +kernel
theorem dX8_address_208 : decode cX8_address 208 = .ok (.lreturn, 1) := by decide +kernel
theorem dX8_route_0 : decode cX8_route 0 = .ok (.aload_n 0, 1) := by decide +kernel
theorem dX8_route_1 : decode cX8_route 1 = .ok (.getfield 19, 3) := by decide +kernel
theorem dX8_route_4 : decode cX8_route 4 = .ok (.getfield 151, 3) := by decide +kernel
theorem dX8_route_7 : decode cX8_route 7 = .ok (.getfield 84, 3) := by decide +kernel
theorem dX8_route_10 : decode cX8_route 10 = .ok (.iload_n 1, 1) := by decide +kernel
theorem dX8_route_11 : decode cX8_route 11 = .ok (.invokevirtual 104, 3) := by decide +kernel
theorem dX8_route_14 : decode cX8_route 14 = .ok (.ifCond .ne 5, 3) := by decide +kernel
theorem dX8_route_17 : decode cX8_route 17 = .ok (.iconst (-1), 1) := by decide +kernel
theorem dX8_route_18 : decode cX8_route 18 = .ok (.ireturn, 1) := by decide +kernel
theorem dX8_route_19 : decode cX8_route 19 = .ok (.iload_n 2, 1) := by decide +kernel
theorem dX8_route_20 : decode cX8_route 20 = .ok (.lookupswitch 48 #[(0, 28), (1, 38)], 28) := by decide +kernel
theorem dX8_route_48 : decode cX8_route 48 = .ok (.aload_n 0, 1) := by decide +kernel
theorem dX8_route_49 : decode cX8_route 49 = .ok (.getfield 19, 3) := by decide +kernel
theorem dX8_route_52 : decode cX8_route 52 = .ok (.getfield 178, 3) := by decide +kernel
theorem dX8_route_55 : decode cX8_route 55 = .ok (.iload_n 1, 1) := by decide +kernel
theorem dX8_route_56 : decode cX8_route 56 = .ok (.iaload, 1) := by decide +kernel
theorem dX8_route_57 : decode cX8_route 57 = .ok (.ireturn, 1) := by decide +kernel
theorem dX8_route_58 : decode cX8_route 58 = .ok (.aload_n 0, 1) := by decide +kernel
theorem dX8_route_59 : decode cX8_route 59 = .ok (.getfield 19, 3) := by decide +kernel
theorem dX8_route_62 : decode cX8_route 62 = .ok (.getfield 181, 3) := by decide +kernel
theorem dX8_route_65 : decode cX8_route 65 = .ok (.iload_n 1, 1) := by decide +kernel
theorem dX8_route_66 : decode cX8_route 66 = .ok (.iaload, 1) := by decide +kernel
theorem dX8_route_67 : decode cX8_route 67 = .ok (.ireturn, 1) := by decide +kernel
theorem dX8_route_68 : decode cX8_route 68 = .ok (.iconst (-1), 1) := by decide +kernel
theorem dX8_route_69 : decode cX8_route 69 = .ok (.ireturn, 1) := by decide +kernel
theorem dX8_thunk_0 : decode cX8_thunk 0 = .ok (.aload_n 0, 1) := by decide +kernel
theorem dX8_thunk_1 : decode cX8_thunk 1 = .ok (.getfield 19, 3) := by decide +kernel
theorem dX8_thunk_4 : decode cX8_thunk 4 = .ok (.getfield 118, 3) := by decide +kernel
theorem dX8_thunk_7 : decode cX8_thunk 7 = .ok (.iload_n 1, 1) := by decide +kernel
theorem dX8_thunk_8 : decode cX8_thunk 8 = .ok (.invokevirtual 168, 3) := by decide +kernel
theorem dX8_thunk_11 : decode cX8_thunk 11 = .ok (.ifCond .ne 5, 3) := by decide +kernel
theorem dX8_thunk_14 : decode cX8_thunk 14 = .ok (.iconst (-1), 1) := by decide +kernel
theorem dX8_thunk_15 : decode cX8_thunk 15 = .ok (.ireturn, 1) := by decide +kernel
theorem dX8_thunk_16 : decode cX8_thunk 16 = .ok (.iload_n 2, 1) := by decide +kernel
theorem dX8_thunk_17 : decode cX8_thunk 17 = .ok (.tableswitch 117 0 5 #[39, 52, 65, 78, 91, 104], 39) := by decide +kernel
theorem dX8_thunk_56 : decode cX8_thunk 56 = .ok (.aload_n 0, 1) := by decide +kernel
theorem dX8_thunk_57 : decode cX8_thunk 57 = .ok (.getfield 19, 3) := by decide +kernel
theorem dX8_thunk_60 : decode cX8_thunk 60 = .ok (.getfield 118, 3) := by decide +kernel
theorem dX8_thunk_63 : decode cX8_thunk 63 = .ok (.getfield 184, 3) := by decide +kernel
theorem dX8_thunk_66 : decode cX8_thunk 66 = .ok (.iload_n 1, 1) := by decide +kernel
theorem dX8_thunk_67 : decode cX8_thunk 67 = .ok (.iaload, 1) := by decide +kernel
theorem dX8_thunk_68 : decode cX8_thunk 68 = .ok (.ireturn, 1) := by decide +kernel
theorem dX8_thunk_69 : decode cX8_thunk 69 = .ok (.aload_n 0, 1) := by decide +kernel
theorem dX8_thunk_70 : decode cX8_thunk 70 = .ok (.getfield 19, 3) := by decide +kernel
theorem dX8_thunk_73 : decode cX8_thunk 73 = .ok (.getfield 118, 3) := by decide +kernel
theorem dX8_thunk_76 : decode cX8_thunk 76 = .ok (.getfield 187, 3) := by decide +kernel
theorem dX8_thunk_79 : decode cX8_thunk 79 = .ok (.iload_n 1, 1) := by decide +kernel
theorem dX8_thunk_80 : decode cX8_thunk 80 = .ok (.iaload, 1) := by decide +kernel
theorem dX8_thunk_81 : decode cX8_thunk 81 = .ok (.ireturn, 1) := by decide +kernel
theorem dX8_thunk_82 : decode cX8_thunk 82 = .ok (.aload_n 0, 1) := by decide +kernel
theorem dX8_thunk_83 : decode cX8_thunk 83 = .ok (.getfield 19, 3) := by decide +kernel
theorem dX8_thunk_86 : decode cX8_thunk 86 = .ok (.getfield 118, 3) := by decide +kernel
theorem dX8_thunk_89 : decode cX8_thunk 89 = .ok (.getfield 188, 3) := by decide +kernel
theorem dX8_thunk_92 : decode cX8_thunk 92 = .ok (.iload_n 1, 1) := by decide +kernel
theorem dX8_thunk_93 : decode cX8_thunk 93 = .ok (.iaload, 1) := by decide +kernel
theorem dX8_thunk_94 : decode cX8_thunk 94 = .ok (.ireturn, 1) := by decide +kernel
theorem dX8_thunk_95 : decode cX8_thunk 95 = .ok (.aload_n 0, 1) := by decide +kernel
theorem dX8_thunk_96 : decode cX8_thunk 96 = .ok (.getfield 19, 3) := by decide +kernel
theorem dX8_thunk_99 : decode cX8_thunk 99 = .ok (.getfield 118, 3) := by decide +kernel
theorem dX8_thunk_102 : decode cX8_thunk 102 = .ok (.getfield 191, 3) := by decide +kernel
theorem dX8_thunk_105 : decode cX8_thunk 105 = .ok (.iload_n 1, 1) := by decide +kernel
theorem dX8_thunk_106 : decode cX8_thunk 106 = .ok (.iaload, 1) := by decide +kernel
theorem dX8_thunk_107 : decode cX8_thunk 107 = .ok (.ireturn, 1) := by decide +kernel
theorem dX8_thunk_108 : decode cX8_thunk 108 = .ok (.aload_n 0, 1) := by decide +kernel
theorem dX8_thunk_109 : decode cX8_thunk 109 = .ok (.getfield 19, 3) := by decide +kernel
theorem dX8_thunk_112 : decode cX8_thunk 112 = .ok (.getfield 118, 3) := by decide +kernel
theorem dX8_thunk_115 : decode cX8_thunk 115 = .ok (.getfield 194, 3) := by decide +kernel
theorem dX8_thunk_118 : decode cX8_thunk 118 = .ok (.iload_n 1, 1) := by decide +kernel
theorem dX8_thunk_119 : decode cX8_thunk 119 = .ok (.iaload, 1) := by decide +kernel
theorem dX8_thunk_120 : decode cX8_thunk 120 = .ok (.ireturn, 1) := by decide +kernel
theorem dX8_thunk_121 : decode cX8_thunk 121 = .ok (.aload_n 0, 1) := by decide +kernel
theorem dX8_thunk_122 : decode cX8_thunk 122 = .ok (.getfield 19, 3) := by decide +kernel
theorem dX8_thunk_125 : decode cX8_thunk 125 = .ok (.getfield 118, 3) := by decide +kernel
theorem dX8_thunk_128 : decode cX8_thunk 128 = .ok (.getfield 197, 3) := by decide +kernel
theorem dX8_thunk_131 : decode cX8_thunk 131 = .ok (.iload_n 1, 1) := by decide +kernel
theorem dX8_thunk_132 : decode cX8_thunk 132 = .ok (.iaload, 1) := by decide +kernel
theorem dX8_thunk_133 : decode cX8_thunk 133 = .ok (.ireturn, 1) := by decide +kernel
theorem dX8_thunk_134 : decode cX8_thunk 134 = .ok (.iconst (-1), 1) := by decide +kernel
theorem dX8_thunk_135 : decode cX8_thunk 135 = .ok (.ireturn, 1) := by decide +kernel
theorem dX8_encoded_0 : decode cX8_encoded 0 = .ok (.iload_n 1, 1) := by decide +kernel
theorem dX8_encoded_1 : decode cX8_encoded 1 = .ok (.lookupswitch 45 #[(0, 27), (1, 36)], 27) := by decide +kernel
theorem dX8_encoded_28 : decode cX8_encoded 28 = .ok (.aload_n 0, 1) := by decide +kernel
theorem dX8_encoded_29 : decode cX8_encoded 29 = .ok (.getfield 19, 3) := by decide +kernel
theorem dX8_encoded_32 : decode cX8_encoded 32 = .ok (.iload_n 2, 1) := by decide +kernel
theorem dX8_encoded_33 : decode cX8_encoded 33 = .ok (.invokevirtual 200, 3) := by decide +kernel
theorem dX8_encoded_36 : decode cX8_encoded 36 = .ok (.ireturn, 1) := by decide +kernel
theorem dX8_encoded_37 : decode cX8_encoded 37 = .ok (.aload_n 0, 1) := by decide +kernel
theorem dX8_encoded_38 : decode cX8_encoded 38 = .ok (.getfield 19, 3) := by decide +kernel
theorem dX8_encoded_41 : decode cX8_encoded 41 = .ok (.iload_n 2, 1) := by decide +kernel
theorem dX8_encoded_42 : decode cX8_encoded 42 = .ok (.invokevirtual 203, 3) := by decide +kernel
theorem dX8_encoded_45 : decode cX8_encoded 45 = .ok (.ireturn, 1) := by decide +kernel
theorem dX8_encoded_46 : decode cX8_encoded 46 = .ok (.iconst (-1), 1) := by decide +kernel
theorem dX8_encoded_47 : decode cX8_encoded 47 = .ok (.ireturn, 1) := by decide +kernel
theorem dX8_at_0 : decode cX8_at 0 = .ok (.aload_n 0, 1) := by decide +kernel
theorem dX8_at_1 : decode cX8_at 1 = .ok (.getfield 19, 3) := by decide +kernel
theorem dX8_at_4 : decode cX8_at 4 = .ok (.lload_n 1, 1) := by decide +kernel
theorem dX8_at_5 : decode cX8_at 5 = .ok (.invokevirtual 206, 3) := by decide +kernel
theorem dX8_at_8 : decode cX8_at 8 = .ok (.ireturn, 1) := by decide +kernel
theorem dX8_walk_0 : decode cX8_walk 0 = .ok (.aload_n 0, 1) := by decide +kernel
theorem dX8_walk_1 : decode cX8_walk 1 = .ok (.getfield 19, 3) := by decide +kernel
theorem dX8_walk_4 : decode cX8_walk 4 = .ok (.iload_n 1, 1) := by decide +kernel
theorem dX8_walk_5 : decode cX8_walk 5 = .ok (.invokevirtual 210, 3) := by decide +kernel
theorem dX8_walk_8 : decode cX8_walk 8 = .ok (.lreturn, 1) := by decide +kernel
theorem dX8_far_0 : decode cX8_far 0 = .ok (.aload_n 0, 1) := by decide +kernel
theorem dX8_far_1 : decode cX8_far 1 = .ok (.getfield 26, 3) := by decide +kernel
theorem dX8_far_4 : decode cX8_far 4 = .ok (.aload_n 0, 1) := by decide +kernel
theorem dX8_far_5 : decode cX8_far 5 = .ok (.getfield 12, 3) := by decide +kernel
theorem dX8_far_8 : decode cX8_far 8 = .ok (.aload_n 0, 1) := by decide +kernel
theorem dX8_far_9 : decode cX8_far 9 = .ok (.getfield 30, 3) := by decide +kernel
theorem dX8_far_12 : decode cX8_far 12 = .ok (.invokevirtual 213, 3) := by decide +kernel
theorem dX8_far_15 : decode cX8_far 15 = .ok (.iconst 0, 1) := by decide +kernel
theorem dX8_far_16 : decode cX8_far 16 = .ok (.istore_n 1, 1) := by decide +kernel
theorem dX8_far_17 : decode cX8_far 17 = .ok (.iconst 0, 1) := by decide +kernel
theorem dX8_far_18 : decode cX8_far 18 = .ok (.istore_n 2, 1) := by decide +kernel
theorem dX8_far_19 : decode cX8_far 19 = .ok (.iload_n 2, 1) := by decide +kernel
theorem dX8_far_20 : decode cX8_far 20 = .ok (.aload_n 0, 1) := by decide +kernel
theorem dX8_far_21 : decode cX8_far 21 = .ok (.getfield 12, 3) := by decide +kernel
theorem dX8_far_24 : decode cX8_far 24 = .ok (.getfield 84, 3) := by decide +kernel
theorem dX8_far_27 : decode cX8_far 27 = .ok (.getfield 147, 3) := by decide +kernel
theorem dX8_far_30 : decode cX8_far 30 = .ok (.if_icmp .ge 127, 3) := by decide +kernel
theorem dX8_far_33 : decode cX8_far 33 = .ok (.aload_n 0, 1) := by decide +kernel
theorem dX8_far_34 : decode cX8_far 34 = .ok (.getfield 26, 3) := by decide +kernel
theorem dX8_far_37 : decode cX8_far 37 = .ok (.getfield 155, 3) := by decide +kernel
theorem dX8_far_40 : decode cX8_far 40 = .ok (.aload_n 0, 1) := by decide +kernel
theorem dX8_far_41 : decode cX8_far 41 = .ok (.getfield 12, 3) := by decide +kernel
theorem dX8_far_44 : decode cX8_far 44 = .ok (.getfield 84, 3) := by decide +kernel
theorem dX8_far_47 : decode cX8_far 47 = .ok (.getfield 217, 3) := by decide +kernel
theorem dX8_far_50 : decode cX8_far 50 = .ok (.iload_n 2, 1) := by decide +kernel
theorem dX8_far_51 : decode cX8_far 51 = .ok (.iaload, 1) := by decide +kernel
theorem dX8_far_52 : decode cX8_far 52 = .ok (.laload, 1) := by decide +kernel
theorem dX8_far_53 : decode cX8_far 53 = .ok (.aload_n 0, 1) := by decide +kernel
theorem dX8_far_54 : decode cX8_far 54 = .ok (.getfield 12, 3) := by decide +kernel
theorem dX8_far_57 : decode cX8_far 57 = .ok (.getfield 84, 3) := by decide +kernel
theorem dX8_far_60 : decode cX8_far 60 = .ok (.getfield 219, 3) := by decide +kernel
theorem dX8_far_63 : decode cX8_far 63 = .ok (.iload_n 2, 1) := by decide +kernel
theorem dX8_far_64 : decode cX8_far 64 = .ok (.iaload, 1) := by decide +kernel
theorem dX8_far_65 : decode cX8_far 65 = .ok (.i2l, 1) := by decide +kernel
theorem dX8_far_66 : decode cX8_far 66 = .ok (.ladd, 1) := by decide +kernel
theorem dX8_far_67 : decode cX8_far 67 = .ok (.lstore_n 3, 1) := by decide +kernel
theorem dX8_far_68 : decode cX8_far 68 = .ok (.aload_n 0, 1) := by decide +kernel
theorem dX8_far_69 : decode cX8_far 69 = .ok (.getfield 12, 3) := by decide +kernel
theorem dX8_far_72 : decode cX8_far 72 = .ok (.getfield 84, 3) := by decide +kernel
theorem dX8_far_75 : decode cX8_far 75 = .ok (.getfield 105, 3) := by decide +kernel
theorem dX8_far_78 : decode cX8_far 78 = .ok (.iload_n 2, 1) := by decide +kernel
theorem dX8_far_79 : decode cX8_far 79 = .ok (.iaload, 1) := by decide +kernel
theorem dX8_far_80 : decode cX8_far 80 = .ok (.istore 5, 2) := by decide +kernel
theorem dX8_far_82 : decode cX8_far 82 = .ok (.aload_n 0, 1) := by decide +kernel
theorem dX8_far_83 : decode cX8_far 83 = .ok (.getfield 26, 3) := by decide +kernel
theorem dX8_far_86 : decode cX8_far 86 = .ok (.getfield 155, 3) := by decide +kernel
theorem dX8_far_89 : decode cX8_far 89 = .ok (.aload_n 0, 1) := by decide +kernel
theorem dX8_far_90 : decode cX8_far 90 = .ok (.getfield 12, 3) := by decide +kernel
theorem dX8_far_93 : decode cX8_far 93 = .ok (.getfield 59, 3) := by decide +kernel
theorem dX8_far_96 : decode cX8_far 96 = .ok (.getfield 222, 3) := by decide +kernel
theorem dX8_far_99 : decode cX8_far 99 = .ok (.iload 5, 2) := by decide +kernel
theorem dX8_far_101 : decode cX8_far 101 = .ok (.iaload, 1) := by decide +kernel
theorem dX8_far_102 : decode cX8_far 102 = .ok (.laload, 1) := by decide +kernel
theorem dX8_far_103 : decode cX8_far 103 = .ok (.aload_n 0, 1) := by decide +kernel
theorem dX8_far_104 : decode cX8_far 104 = .ok (.getfield 12, 3) := by decide +kernel
theorem dX8_far_107 : decode cX8_far 107 = .ok (.getfield 59, 3) := by decide +kernel
theorem dX8_far_110 : decode cX8_far 110 = .ok (.getfield 223, 3) := by decide +kernel
theorem dX8_far_113 : decode cX8_far 113 = .ok (.iload 5, 2) := by decide +kernel
theorem dX8_far_115 : decode cX8_far 115 = .ok (.iaload, 1) := by decide +kernel
theorem dX8_far_116 : decode cX8_far 116 = .ok (.i2l, 1) := by decide +kernel
theorem dX8_far_117 : decode cX8_far 117 = .ok (.ladd, 1) := by decide +kernel
theorem dX8_far_118 : decode cX8_far 118 = .ok (.lstore 6, 2) := by decide +kernel
theorem dX8_far_120 : decode cX8_far 120 = .ok (.aload_n 0, 1) := by decide +kernel
theorem dX8_far_121 : decode cX8_far 121 = .ok (.getfield 12, 3) := by decide +kernel
theorem dX8_far_124 : decode cX8_far 124 = .ok (.getfield 68, 3) := by decide +kernel
theorem dX8_far_127 : decode cX8_far 127 = .ok (.aload_n 0, 1) := by decide +kernel
theorem dX8_far_128 : decode cX8_far 128 = .ok (.getfield 12, 3) := by decide +kernel
theorem dX8_far_131 : decode cX8_far 131 = .ok (.getfield 84, 3) := by decide +kernel
theorem dX8_far_134 : decode cX8_far 134 = .ok (.getfield 224, 3) := by decide +kernel
theorem dX8_far_137 : decode cX8_far 137 = .ok (.iload_n 2, 1) := by decide +kernel
theorem dX8_far_138 : decode cX8_far 138 = .ok (.iaload, 1) := by decide +kernel
theorem dX8_far_139 : decode cX8_far 139 = .ok (.lload_n 3, 1) := by decide +kernel
theorem dX8_far_140 : decode cX8_far 140 = .ok (.lload 6, 2) := by decide +kernel
theorem dX8_far_142 : decode cX8_far 142 = .ok (.invokevirtual 227, 3) := by decide +kernel
theorem dX8_far_145 : decode cX8_far 145 = .ok (.ifCond .ne 6, 3) := by decide +kernel
theorem dX8_far_148 : decode cX8_far 148 = .ok (.iinc 1 1, 3) := by decide +kernel
theorem dX8_far_151 : decode cX8_far 151 = .ok (.iinc 2 1, 3) := by decide +kernel
theorem dX8_far_154 : decode cX8_far 154 = .ok (.goto (-135), 3) := by decide +kernel
theorem dX8_far_157 : decode cX8_far 157 = .ok (.iload_n 1, 1) := by decide +kernel
theorem dX8_far_158 : decode cX8_far 158 = .ok (.ireturn, 1) := by decide +kernel
theorem dX8_notedNumber_0 : decode cX8_notedNumber 0 = .ok (.aload_n 0, 1) := by decide +kernel
theorem dX8_notedNumber_1 : decode cX8_notedNumber 1 = .ok (.iload_n 1, 1) := by decide +kernel
theorem dX8_notedNumber_2 : decode cX8_notedNumber 2 = .ok (.iconst (-1), 1) := by decide +kernel
theorem dX8_notedNumber_3 : decode cX8_notedNumber 3 = .ok (.if_icmp .eq 7, 3) := by decide +kernel
theorem dX8_notedNumber_6 : decode cX8_notedNumber 6 = .ok (.iconst 1, 1) := by decide +kernel
theorem dX8_notedNumber_7 : decode cX8_notedNumber 7 = .ok (.goto 4, 3) := by decide +kernel
theorem dX8_notedNumber_10 : decode cX8_notedNumber 10 = .ok (.iconst 0, 1) := by decide +kernel
theorem dX8_notedNumber_11 : decode cX8_notedNumber 11 = .ok (.invokevirtual 78, 3) := by decide +kernel
theorem dX8_notedNumber_14 : decode cX8_notedNumber 14 = .ok (.pop, 1) := by decide +kernel
theorem dX8_notedNumber_15 : decode cX8_notedNumber 15 = .ok (.iload_n 1, 1) := by decide +kernel
theorem dX8_notedNumber_16 : decode cX8_notedNumber 16 = .ok (.ireturn, 1) := by decide +kernel
theorem dX8_noted_0 : decode cX8_noted 0 = .ok (.iload_n 1, 1) := by decide +kernel
theorem dX8_noted_1 : decode cX8_noted 1 = .ok (.ifCond .eq 8, 3) := by decide +kernel
theorem dX8_noted_4 : decode cX8_noted 4 = .ok (.aload_n 0, 1) := by decide +kernel
theorem dX8_noted_5 : decode cX8_noted 5 = .ok (.iconst 1, 1) := by decide +kernel
theorem dX8_noted_6 : decode cX8_noted 6 = .ok (.putfield 34, 3) := by decide +kernel
theorem dX8_noted_9 : decode cX8_noted 9 = .ok (.iload_n 1, 1) := by decide +kernel
theorem dX8_noted_10 : decode cX8_noted 10 = .ok (.ireturn, 1) := by decide +kernel
theorem dX8_alignUp_0 : decode cX8_alignUp 0 = .ok (.lload_n 0, 1) := by decide +kernel
theorem dX8_alignUp_1 : decode cX8_alignUp 1 = .ok (.lload_n 2, 1) := by decide +kernel
theorem dX8_alignUp_2 : decode cX8_alignUp 2 = .ok (.ladd, 1) := by decide +kernel
theorem dX8_alignUp_3 : decode cX8_alignUp 3 = .ok (.lconst 1, 1) := by decide +kernel
theorem dX8_alignUp_4 : decode cX8_alignUp 4 = .ok (.lsub, 1) := by decide +kernel
theorem dX8_alignUp_5 : decode cX8_alignUp 5 = .ok (.lload_n 2, 1) := by decide +kernel
theorem dX8_alignUp_6 : decode cX8_alignUp 6 = .ok (.lneg, 1) := by decide +kernel
theorem dX8_alignUp_7 : decode cX8_alignUp 7 = .ok (.land, 1) := by decide +kernel
theorem dX8_alignUp_8 : decode cX8_alignUp 8 = .ok (.lreturn, 1) := by decide +kernel
theorem dX9_init_0 : decode cX9_init 0 = .ok (.aload_n 0, 1) := by decide +kernel
theorem dX9_init_1 : decode cX9_init 1 = .ok (.invokespecial 1, 3) := by decide +kernel
theorem dX9_init_4 : decode cX9_init 4 = .ok (.aload_n 0, 1) := by decide +kernel
theorem dX9_init_5 : decode cX9_init 5 = .ok (.bipush 40, 2) := by decide +kernel
theorem dX9_init_7 : decode cX9_init 7 = .ok (.newarray .int, 2) := by decide +kernel
theorem dX9_init_9 : decode cX9_init 9 = .ok (.putfield 7, 3) := by decide +kernel
theorem dX9_init_12 : decode cX9_init 12 = .ok (.aload_n 0, 1) := by decide +kernel
theorem dX9_init_13 : decode cX9_init 13 = .ok (.bipush 40, 2) := by decide +kernel
theorem dX9_init_15 : decode cX9_init 15 = .ok (.newarray .int, 2) := by decide +kernel
theorem dX9_init_17 : decode cX9_init 17 = .ok (.putfield 13, 3) := by decide +kernel
theorem dX9_init_20 : decode cX9_init 20 = .ok (.aload_n 0, 1) := by decide +kernel
theorem dX9_init_21 : decode cX9_init 21 = .ok (.bipush 40, 2) := by decide +kernel
theorem dX9_init_23 : decode cX9_init 23 = .ok (.newarray .boolean, 2) := by decide +kernel
theorem dX9_init_25 : decode cX9_init 25 = .ok (.putfield 16, 3) := by decide +kernel
theorem dX9_init_28 : decode cX9_init 28 = .ok (.aload_n 0, 1) := by decide +kernel
theorem dX9_init_29 : decode cX9_init 29 = .ok (.bipush 60, 2) := by decide +kernel
theorem dX9_init_31 : decode cX9_init 31 = .ok (.newarray .int, 2) := by decide +kernel
theorem dX9_init_33 : decode cX9_init 33 = .ok (.putfield 20, 3) := by decide +kernel
theorem dX9_init_36 : decode cX9_init 36 = .ok (.aload_n 0, 1) := by decide +kernel
theorem dX9_init_37 : decode cX9_init 37 = .ok (.bipush 60, 2) := by decide +kernel
theorem dX9_init_39 : decode cX9_init 39 = .ok (.newarray .int, 2) := by decide +kernel
theorem dX9_init_41 : decode cX9_init 41 = .ok (.putfield 23, 3) := by decide +kernel
theorem dX9_init_44 : decode cX9_init 44 = .ok (.aload_n 0, 1) := by decide +kernel
theorem dX9_init_45 : decode cX9_init 45 = .ok (.sipush 200, 3) := by decide +kernel
theorem dX9_init_48 : decode cX9_init 48 = .ok (.newarray .int, 2) := by decide +kernel
theorem dX9_init_50 : decode cX9_init 50 = .ok (.putfield 26, 3) := by decide +kernel
theorem dX9_init_53 : decode cX9_init 53 = .ok (.aload_n 0, 1) := by decide +kernel
theorem dX9_init_54 : decode cX9_init 54 = .ok (.sipush 200, 3) := by decide +kernel
theorem dX9_init_57 : decode cX9_init 57 = .ok (.newarray .int, 2) := by decide +kernel
theorem dX9_init_59 : decode cX9_init 59 = .ok (.putfield 29, 3) := by decide +kernel
theorem dX9_init_62 : decode cX9_init 62 = .ok (.aload_n 0, 1) := by decide +kernel
theorem dX9_init_63 : decode cX9_init 63 = .ok (.sipush 200, 3) := by decide +kernel
theorem dX9_init_66 : decode cX9_init 66 = .ok (.newarray .int, 2) := by decide +kernel
theorem dX9_init_68 : decode cX9_init 68 = .ok (.putfield 32, 3) := by decide +kernel
theorem dX9_init_71 : decode cX9_init 71 = .ok (.aload_n 0, 1) := by decide +kernel
theorem dX9_init_72 : decode cX9_init 72 = .ok (.sipush 200, 3) := by decide +kernel
theorem dX9_init_75 : decode cX9_init 75 = .ok (.newarray .int, 2) := by decide +kernel
theorem dX9_init_77 : decode cX9_init 77 = .ok (.putfield 35, 3) := by decide +kernel
theorem dX9_init_80 : decode cX9_init 80 = .ok (.aload_n 0, 1) := by decide +kernel
theorem dX9_init_81 : decode cX9_init 81 = .ok (.bipush 8, 2) := by decide +kernel
theorem dX9_init_83 : decode cX9_init 83 = .ok (.newarray .int, 2) := by decide +kernel
theorem dX9_init_85 : decode cX9_init 85 = .ok (.putfield 38, 3) := by decide +kernel
theorem dX9_init_88 : decode cX9_init 88 = .ok (.aload_n 0, 1) := by decide +kernel
theorem dX9_init_89 : decode cX9_init 89 = .ok (.bipush 8, 2) := by decide +kernel
theorem dX9_init_91 : decode cX9_init 91 = .ok (.newarray .int, 2) := by decide +kernel
theorem dX9_init_93 : decode cX9_init 93 = .ok (.putfield 41, 3) := by decide +kernel
theorem dX9_init_96 : decode cX9_init 96 = .ok (.aload_n 0, 1) := by decide +kernel
theorem dX9_init_97 : decode cX9_init 97 = .ok (.bipush 40, 2) := by decide +kernel
theorem dX9_init_99 : decode cX9_init 99 = .ok (.newarray .long, 2) := by decide +kernel
theorem dX9_init_101 : decode cX9_init 101 = .ok (.putfield 44, 3) := by decide +kernel
theorem dX9_init_104 : decode cX9_init 104 = .ok (.aload_n 0, 1) := by decide +kernel
theorem dX9_init_105 : decode cX9_init 105 = .ok (.bipush 40, 2) := by decide +kernel
theorem dX9_init_107 : decode cX9_init 107 = .ok (.newarray .long, 2) := by decide +kernel
theorem dX9_init_109 : decode cX9_init 109 = .ok (.putfield 48, 3) := by decide +kernel
theorem dX9_init_112 : decode cX9_init 112 = .ok (.aload_n 0, 1) := by decide +kernel
theorem dX9_init_113 : decode cX9_init 113 = .ok (.bipush 40, 2) := by decide +kernel
theorem dX9_init_115 : decode cX9_init 115 = .ok (.newarray .boolean, 2) := by decide +kernel
theorem dX9_init_117 : decode cX9_init 117 = .ok (.putfield 51, 3) := by decide +kernel
theorem dX9_init_120 : decode cX9_init 120 = .ok (.aload_n 0, 1) := by decide +kernel
theorem dX9_init_121 : decode cX9_init 121 = .ok (.bipush 40, 2) := by decide +kernel
