theorem dX9_init_123 : decode cX9_init 123 = .ok (.newarray .long, 2) := by decide +kernel
theorem dX9_init_125 : decode cX9_init 125 = .ok (.putfield 54, 3) := by decide +kernel
theorem dX9_init_128 : decode cX9_init 128 = .ok (.aload_n 0, 1) := by decide +kernel
theorem dX9_init_129 : decode cX9_init 129 = .ok (.bipush 60, 2) := by decide +kernel
theorem dX9_init_131 : decode cX9_init 131 = .ok (.newarray .long, 2) := by decide +kernel
theorem dX9_init_133 : decode cX9_init 133 = .ok (.putfield 57, 3) := by decide +kernel
theorem dX9_init_136 : decode cX9_init 136 = .ok (.aload_n 0, 1) := by decide +kernel
theorem dX9_init_137 : decode cX9_init 137 = .ok (.sipush 200, 3) := by decide +kernel
theorem dX9_init_140 : decode cX9_init 140 = .ok (.newarray .long, 2) := by decide +kernel
theorem dX9_init_142 : decode cX9_init 142 = .ok (.putfield 60, 3) := by decide +kernel
theorem dX9_init_145 : decode cX9_init 145 = .ok (.aload_n 0, 1) := by decide +kernel
theorem dX9_init_146 : decode cX9_init 146 = .ok (.sipush 200, 3) := by decide +kernel
theorem dX9_init_149 : decode cX9_init 149 = .ok (.newarray .int, 2) := by decide +kernel
theorem dX9_init_151 : decode cX9_init 151 = .ok (.putfield 63, 3) := by decide +kernel
theorem dX9_init_154 : decode cX9_init 154 = .ok (.aload_n 0, 1) := by decide +kernel
theorem dX9_init_155 : decode cX9_init 155 = .ok (.sipush 200, 3) := by decide +kernel
theorem dX9_init_158 : decode cX9_init 158 = .ok (.newarray .int, 2) := by decide +kernel
theorem dX9_init_160 : decode cX9_init 160 = .ok (.putfield 66, 3) := by decide +kernel
theorem dX9_init_163 : decode cX9_init 163 = .ok (.aload_n 0, 1) := by decide +kernel
theorem dX9_init_164 : decode cX9_init 164 = .ok (.sipush 200, 3) := by decide +kernel
theorem dX9_init_167 : decode cX9_init 167 = .ok (.newarray .int, 2) := by decide +kernel
theorem dX9_init_169 : decode cX9_init 169 = .ok (.putfield 69, 3) := by decide +kernel
theorem dX9_init_172 : decode cX9_init 172 = .ok (.aload_n 0, 1) := by decide +kernel
theorem dX9_init_173 : decode cX9_init 173 = .ok (.sipush 200, 3) := by decide +kernel
theorem dX9_init_176 : decode cX9_init 176 = .ok (.newarray .int, 2) := by decide +kernel
theorem dX9_init_178 : decode cX9_init 178 = .ok (.putfield 72, 3) := by decide +kernel
theorem dX9_init_181 : decode cX9_init 181 = .ok (.aload_n 0, 1) := by decide +kernel
theorem dX9_init_182 : decode cX9_init 182 = .ok (.bipush 8, 2) := by decide +kernel
theorem dX9_init_184 : decode cX9_init 184 = .ok (.newarray .int, 2) := by decide +kernel
theorem dX9_init_186 : decode cX9_init 186 = .ok (.putfield 75, 3) := by decide +kernel
theorem dX9_init_189 : decode cX9_init 189 = .ok (.aload_n 0, 1) := by decide +kernel
theorem dX9_init_190 : decode cX9_init 190 = .ok (.bipush 8, 2) := by decide +kernel
theorem dX9_init_192 : decode cX9_init 192 = .ok (.newarray .int, 2) := by decide +kernel
theorem dX9_init_194 : decode cX9_init 194 = .ok (.putfield 78, 3) := by decide +kernel
theorem dX9_init_197 : decode cX9_init 197 = .ok (.aload_n 0, 1) := by decide +kernel
theorem dX9_init_198 : decode cX9_init 198 = .ok (.sipush 2400, 3) := by decide +kernel
theorem dX9_init_201 : decode cX9_init 201 = .ok (.newarray .long, 2) := by decide +kernel
theorem dX9_init_203 : decode cX9_init 203 = .ok (.putfield 81, 3) := by decide +kernel
theorem dX9_init_206 : decode cX9_init 206 = .ok (.aload_n 0, 1) := by decide +kernel
theorem dX9_init_207 : decode cX9_init 207 = .ok (.sipush 2400, 3) := by decide +kernel
theorem dX9_init_210 : decode cX9_init 210 = .ok (.newarray .int, 2) := by decide +kernel
theorem dX9_init_212 : decode cX9_init 212 = .ok (.putfield 84, 3) := by decide +kernel
theorem dX9_init_215 : decode cX9_init 215 = .ok (.aload_n 0, 1) := by decide +kernel
theorem dX9_init_216 : decode cX9_init 216 = .ok (.sipush 2400, 3) := by decide +kernel
theorem dX9_init_219 : decode cX9_init 219 = .ok (.newarray .int, 2) := by decide +kernel
theorem dX9_init_221 : decode cX9_init 221 = .ok (.putfield 87, 3) := by decide +kernel
theorem dX9_init_224 : decode cX9_init 224 = .ok (.aload_n 0, 1) := by decide +kernel
theorem dX9_init_225 : decode cX9_init 225 = .ok (.sipush 2400, 3) := by decide +kernel
theorem dX9_init_228 : decode cX9_init 228 = .ok (.newarray .int, 2) := by decide +kernel
theorem dX9_init_230 : decode cX9_init 230 = .ok (.putfield 90, 3) := by decide +kernel
theorem dX9_init_233 : decode cX9_init 233 = .ok (.aload_n 0, 1) := by decide +kernel
theorem dX9_init_234 : decode cX9_init 234 = .ok (.sipush 2400, 3) := by decide +kernel
theorem dX9_init_237 : decode cX9_init 237 = .ok (.newarray .int, 2) := by decide +kernel
theorem dX9_init_239 : decode cX9_init 239 = .ok (.putfield 93, 3) := by decide +kernel
theorem dX9_init_242 : decode cX9_init 242 = .ok (.aload_n 0, 1) := by decide +kernel
theorem dX9_init_243 : decode cX9_init 243 = .ok (.sipush 2400, 3) := by decide +kernel
theorem dX9_init_246 : decode cX9_init 246 = .ok (.newarray .int, 2) := by decide +kernel
theorem dX9_init_248 : decode cX9_init 248 = .ok (.putfield 96, 3) := by decide +kernel
theorem dX9_init_251 : decode cX9_init 251 = .ok (.aload_n 0, 1) := by decide +kernel
theorem dX9_init_252 : decode cX9_init 252 = .ok (.sipush 2400, 3) := by decide +kernel
theorem dX9_init_255 : decode cX9_init 255 = .ok (.newarray .int, 2) := by decide +kernel
theorem dX9_init_257 : decode cX9_init 257 = .ok (.putfield 99, 3) := by decide +kernel
theorem dX9_init_260 : decode cX9_init 260 = .ok (.aload_n 0, 1) := by decide +kernel
theorem dX9_init_261 : decode cX9_init 261 = .ok (.bipush 40, 2) := by decide +kernel
theorem dX9_init_263 : decode cX9_init 263 = .ok (.newarray .long, 2) := by decide +kernel
theorem dX9_init_265 : decode cX9_init 265 = .ok (.putfield 102, 3) := by decide +kernel
theorem dX9_init_268 : decode cX9_init 268 = .ok (.return_, 1) := by decide +kernel
theorem dX9_in_0 : decode cX9_in 0 = .ok (.iload_n 0, 1) := by decide +kernel
theorem dX9_in_1 : decode cX9_in 1 = .ok (.iload_n 1, 1) := by decide +kernel
theorem dX9_in_2 : decode cX9_in 2 = .ok (.if_icmp .lt 12, 3) := by decide +kernel
theorem dX9_in_5 : decode cX9_in 5 = .ok (.iload_n 0, 1) := by decide +kernel
theorem dX9_in_6 : decode cX9_in 6 = .ok (.iload_n 2, 1) := by decide +kernel
theorem dX9_in_7 : decode cX9_in 7 = .ok (.if_icmp .gt 7, 3) := by decide +kernel
theorem dX9_in_10 : decode cX9_in 10 = .ok (.iconst 1, 1) := by decide +kernel
theorem dX9_in_11 : decode cX9_in 11 = .ok (.goto 4, 3) := by decide +kernel
theorem dX9_in_14 : decode cX9_in 14 = .ok (.iconst 0, 1) := by decide +kernel
theorem dX9_in_15 : decode cX9_in 15 = .ok (.ireturn, 1) := by decide +kernel
theorem dX9_section_0 : decode cX9_section 0 = .ok (.aload_n 0, 1) := by decide +kernel
theorem dX9_section_1 : decode cX9_section 1 = .ok (.getfield 105, 3) := by decide +kernel
theorem dX9_section_4 : decode cX9_section 4 = .ok (.bipush 40, 2) := by decide +kernel
theorem dX9_section_6 : decode cX9_section 6 = .ok (.if_icmp .eq 23, 3) := by decide +kernel
theorem dX9_section_9 : decode cX9_section 9 = .ok (.iload_n 1, 1) := by decide +kernel
theorem dX9_section_10 : decode cX9_section 10 = .ok (.iconst 0, 1) := by decide +kernel
theorem dX9_section_11 : decode cX9_section 11 = .ok (.ldc 109, 2) := by decide +kernel
theorem dX9_section_13 : decode cX9_section 13 = .ok (.invokestatic 110, 3) := by decide +kernel
theorem dX9_section_16 : decode cX9_section 16 = .ok (.ifCond .eq 13, 3) := by decide +kernel
theorem dX9_section_19 : decode cX9_section 19 = .ok (.iload_n 2, 1) := by decide +kernel
theorem dX9_section_20 : decode cX9_section 20 = .ok (.iconst 0, 1) := by decide +kernel
theorem dX9_section_21 : decode cX9_section 21 = .ok (.bipush 12, 2) := by decide +kernel
theorem dX9_section_23 : decode cX9_section 23 = .ok (.invokestatic 110, 3) := by decide +kernel
theorem dX9_section_26 : decode cX9_section 26 = .ok (.ifCond .ne 5, 3) := by decide +kernel
theorem dX9_section_29 : decode cX9_section 29 = .ok (.iconst (-1), 1) := by decide +kernel
theorem dX9_section_30 : decode cX9_section 30 = .ok (.ireturn, 1) := by decide +kernel
theorem dX9_section_31 : decode cX9_section 31 = .ok (.aload_n 0, 1) := by decide +kernel
theorem dX9_section_32 : decode cX9_section 32 = .ok (.getfield 7, 3) := by decide +kernel
theorem dX9_section_35 : decode cX9_section 35 = .ok (.aload_n 0, 1) := by decide +kernel
theorem dX9_section_36 : decode cX9_section 36 = .ok (.getfield 105, 3) := by decide +kernel
theorem dX9_section_39 : decode cX9_section 39 = .ok (.iload_n 1, 1) := by decide +kernel
theorem dX9_section_40 : decode cX9_section 40 = .ok (.iastore, 1) := by decide +kernel
theorem dX9_section_41 : decode cX9_section 41 = .ok (.aload_n 0, 1) := by decide +kernel
theorem dX9_section_42 : decode cX9_section 42 = .ok (.getfield 13, 3) := by decide +kernel
theorem dX9_section_45 : decode cX9_section 45 = .ok (.aload_n 0, 1) := by decide +kernel
theorem dX9_section_46 : decode cX9_section 46 = .ok (.getfield 105, 3) := by decide +kernel
theorem dX9_section_49 : decode cX9_section 49 = .ok (.iload_n 2, 1) := by decide +kernel
theorem dX9_section_50 : decode cX9_section 50 = .ok (.iastore, 1) := by decide +kernel
theorem dX9_section_51 : decode cX9_section 51 = .ok (.aload_n 0, 1) := by decide +kernel
theorem dX9_section_52 : decode cX9_section 52 = .ok (.getfield 16, 3) := by decide +kernel
theorem dX9_section_55 : decode cX9_section 55 = .ok (.aload_n 0, 1) := by decide +kernel
theorem dX9_section_56 : decode cX9_section 56 = .ok (.getfield 105, 3) := by decide +kernel
theorem dX9_section_59 : decode cX9_section 59 = .ok (.iload_n 3, 1) := by decide +kernel
theorem dX9_section_60 : decode cX9_section 60 = .ok (.bastore, 1) := by decide +kernel
theorem dX9_section_61 : decode cX9_section 61 = .ok (.aload_n 0, 1) := by decide +kernel
theorem dX9_section_62 : decode cX9_section 62 = .ok (.dup, 1) := by decide +kernel
theorem dX9_section_63 : decode cX9_section 63 = .ok (.getfield 114, 3) := by decide +kernel
theorem dX9_section_66 : decode cX9_section 66 = .ok (.iload_n 3, 1) := by decide +kernel
theorem dX9_section_67 : decode cX9_section 67 = .ok (.ifCond .eq 7, 3) := by decide +kernel
theorem dX9_section_70 : decode cX9_section 70 = .ok (.iconst 1, 1) := by decide +kernel
theorem dX9_section_71 : decode cX9_section 71 = .ok (.goto 4, 3) := by decide +kernel
theorem dX9_section_74 : decode cX9_section 74 = .ok (.iconst 0, 1) := by decide +kernel
theorem dX9_section_75 : decode cX9_section 75 = .ok (.iadd, 1) := by decide +kernel
theorem dX9_section_76 : decode cX9_section 76 = .ok (.putfield 114, 3) := by decide +kernel
theorem dX9_section_79 : decode cX9_section 79 = .ok (.aload_n 0, 1) := by decide +kernel
theorem dX9_section_80 : decode cX9_section 80 = .ok (.dup, 1) := by decide +kernel
theorem dX9_section_81 : decode cX9_section 81 = .ok (.getfield 105, 3) := by decide +kernel
theorem dX9_section_84 : decode cX9_section 84 = .ok (.iconst 1, 1) := by decide +kernel
theorem dX9_section_85 : decode cX9_section 85 = .ok (.iadd, 1) := by decide +kernel
theorem dX9_section_86 : decode cX9_section 86 = .ok (.putfield 105, 3) := by decide +kernel
theorem dX9_section_89 : decode cX9_section 89 = .ok (.aload_n 0, 1) := by decide +kernel
theorem dX9_section_90 : decode cX9_section 90 = .ok (.iconst 1, 1) := by decide +kernel
theorem dX9_section_91 : decode cX9_section 91 = .ok (.putfield 117, 3) := by decide +kernel
theorem dX9_section_94 : decode cX9_section 94 = .ok (.aload_n 0, 1) := by decide +kernel
theorem dX9_section_95 : decode cX9_section 95 = .ok (.getfield 105, 3) := by decide +kernel
theorem dX9_section_98 : decode cX9_section 98 = .ok (.iconst 1, 1) := by decide +kernel
theorem dX9_section_99 : decode cX9_section 99 = .ok (.isub, 1) := by decide +kernel
theorem dX9_section_100 : decode cX9_section 100 = .ok (.ireturn, 1) := by decide +kernel
theorem dX9_label_0 : decode cX9_label 0 = .ok (.aload_n 0, 1) := by decide +kernel
theorem dX9_label_1 : decode cX9_label 1 = .ok (.getfield 121, 3) := by decide +kernel
theorem dX9_label_4 : decode cX9_label 4 = .ok (.bipush 60, 2) := by decide +kernel
theorem dX9_label_6 : decode cX9_label 6 = .ok (.if_icmp .eq 31, 3) := by decide +kernel
theorem dX9_label_9 : decode cX9_label 9 = .ok (.iload_n 1, 1) := by decide +kernel
theorem dX9_label_10 : decode cX9_label 10 = .ok (.iconst 0, 1) := by decide +kernel
theorem dX9_label_11 : decode cX9_label 11 = .ok (.aload_n 0, 1) := by decide +kernel
theorem dX9_label_12 : decode cX9_label 12 = .ok (.getfield 105, 3) := by decide +kernel
theorem dX9_label_15 : decode cX9_label 15 = .ok (.iconst 1, 1) := by decide +kernel
theorem dX9_label_16 : decode cX9_label 16 = .ok (.isub, 1) := by decide +kernel
theorem dX9_label_17 : decode cX9_label 17 = .ok (.invokestatic 110, 3) := by decide +kernel
theorem dX9_label_20 : decode cX9_label 20 = .ok (.ifCond .eq 17, 3) := by decide +kernel
theorem dX9_label_23 : decode cX9_label 23 = .ok (.iload_n 2, 1) := by decide +kernel
theorem dX9_label_24 : decode cX9_label 24 = .ok (.iconst 0, 1) := by decide +kernel
theorem dX9_label_25 : decode cX9_label 25 = .ok (.aload_n 0, 1) := by decide +kernel
theorem dX9_label_26 : decode cX9_label 26 = .ok (.getfield 7, 3) := by decide +kernel
theorem dX9_label_29 : decode cX9_label 29 = .ok (.iload_n 1, 1) := by decide +kernel
theorem dX9_label_30 : decode cX9_label 30 = .ok (.iaload, 1) := by decide +kernel
theorem dX9_label_31 : decode cX9_label 31 = .ok (.invokestatic 110, 3) := by decide +kernel
theorem dX9_label_34 : decode cX9_label 34 = .ok (.ifCond .ne 5, 3) := by decide +kernel
theorem dX9_label_37 : decode cX9_label 37 = .ok (.iconst (-1), 1) := by decide +kernel
theorem dX9_label_38 : decode cX9_label 38 = .ok (.ireturn, 1) := by decide +kernel
theorem dX9_label_39 : decode cX9_label 39 = .ok (.aload_n 0, 1) := by decide +kernel
theorem dX9_label_40 : decode cX9_label 40 = .ok (.getfield 20, 3) := by decide +kernel
theorem dX9_label_43 : decode cX9_label 43 = .ok (.aload_n 0, 1) := by decide +kernel
theorem dX9_label_44 : decode cX9_label 44 = .ok (.getfield 121, 3) := by decide +kernel
theorem dX9_label_47 : decode cX9_label 47 = .ok (.iload_n 1, 1) := by decide +kernel
theorem dX9_label_48 : decode cX9_label 48 = .ok (.iastore, 1) := by decide +kernel
theorem dX9_label_49 : decode cX9_label 49 = .ok (.aload_n 0, 1) := by decide +kernel
theorem dX9_label_50 : decode cX9_label 50 = .ok (.getfield 23, 3) := by decide +kernel
theorem dX9_label_53 : decode cX9_label 53 = .ok (.aload_n 0, 1) := by decide +kernel
theorem dX9_label_54 : decode cX9_label 54 = .ok (.getfield 121, 3) := by decide +kernel
theorem dX9_label_57 : decode cX9_label 57 = .ok (.iload_n 2, 1) := by decide +kernel
theorem dX9_label_58 : decode cX9_label 58 = .ok (.iastore, 1) := by decide +kernel
theorem dX9_label_59 : decode cX9_label 59 = .ok (.aload_n 0, 1) := by decide +kernel
theorem dX9_label_60 : decode cX9_label 60 = .ok (.dup, 1) := by decide +kernel
theorem dX9_label_61 : decode cX9_label 61 = .ok (.getfield 121, 3) := by decide +kernel
theorem dX9_label_64 : decode cX9_label 64 = .ok (.iconst 1, 1) := by decide +kernel
theorem dX9_label_65 : decode cX9_label 65 = .ok (.iadd, 1) := by decide +kernel
theorem dX9_label_66 : decode cX9_label 66 = .ok (.putfield 121, 3) := by decide +kernel
theorem dX9_label_69 : decode cX9_label 69 = .ok (.aload_n 0, 1) := by decide +kernel
theorem dX9_label_70 : decode cX9_label 70 = .ok (.iconst 1, 1) := by decide +kernel
theorem dX9_label_71 : decode cX9_label 71 = .ok (.putfield 117, 3) := by decide +kernel
theorem dX9_label_74 : decode cX9_label 74 = .ok (.aload_n 0, 1) := by decide +kernel
theorem dX9_label_75 : decode cX9_label 75 = .ok (.getfield 121, 3) := by decide +kernel
theorem dX9_label_78 : decode cX9_label 78 = .ok (.iconst 1, 1) := by decide +kernel
theorem dX9_label_79 : decode cX9_label 79 = .ok (.isub, 1) := by decide +kernel
theorem dX9_label_80 : decode cX9_label 80 = .ok (.ireturn, 1) := by decide +kernel
theorem dX9_kind_0 : decode cX9_kind 0 = .ok (.iload_n 1, 1) := by decide +kernel
theorem dX9_kind_1 : decode cX9_kind 1 = .ok (.iconst 0, 1) := by decide +kernel
theorem dX9_kind_2 : decode cX9_kind 2 = .ok (.bipush 7, 2) := by decide +kernel
theorem dX9_kind_4 : decode cX9_kind 4 = .ok (.invokestatic 110, 3) := by decide +kernel
theorem dX9_kind_7 : decode cX9_kind 7 = .ok (.ifCond .eq 34, 3) := by decide +kernel
theorem dX9_kind_10 : decode cX9_kind 10 = .ok (.iload_n 2, 1) := by decide +kernel
theorem dX9_kind_11 : decode cX9_kind 11 = .ok (.iconst 1, 1) := by decide +kernel
theorem dX9_kind_12 : decode cX9_kind 12 = .ok (.if_icmp .eq 19, 3) := by decide +kernel
theorem dX9_kind_15 : decode cX9_kind 15 = .ok (.iload_n 2, 1) := by decide +kernel
theorem dX9_kind_16 : decode cX9_kind 16 = .ok (.iconst 2, 1) := by decide +kernel
theorem dX9_kind_17 : decode cX9_kind 17 = .ok (.if_icmp .eq 14, 3) := by decide +kernel
theorem dX9_kind_20 : decode cX9_kind 20 = .ok (.iload_n 2, 1) := by decide +kernel
theorem dX9_kind_21 : decode cX9_kind 21 = .ok (.iconst 4, 1) := by decide +kernel
theorem dX9_kind_22 : decode cX9_kind 22 = .ok (.if_icmp .eq 9, 3) := by decide +kernel
theorem dX9_kind_25 : decode cX9_kind 25 = .ok (.iload_n 2, 1) := by decide +kernel
theorem dX9_kind_26 : decode cX9_kind 26 = .ok (.bipush 8, 2) := by decide +kernel
theorem dX9_kind_28 : decode cX9_kind 28 = .ok (.if_icmp .ne 13, 3) := by decide +kernel
theorem dX9_kind_31 : decode cX9_kind 31 = .ok (.iload_n 3, 1) := by decide +kernel
theorem dX9_kind_32 : decode cX9_kind 32 = .ok (.iconst 4, 1) := by decide +kernel
theorem dX9_kind_33 : decode cX9_kind 33 = .ok (.bipush 30, 2) := by decide +kernel
theorem dX9_kind_35 : decode cX9_kind 35 = .ok (.invokestatic 110, 3) := by decide +kernel
theorem dX9_kind_38 : decode cX9_kind 38 = .ok (.ifCond .ne 5, 3) := by decide +kernel
theorem dX9_kind_41 : decode cX9_kind 41 = .ok (.iconst 0, 1) := by decide +kernel
theorem dX9_kind_42 : decode cX9_kind 42 = .ok (.ireturn, 1) := by decide +kernel
theorem dX9_kind_43 : decode cX9_kind 43 = .ok (.aload_n 0, 1) := by decide +kernel
theorem dX9_kind_44 : decode cX9_kind 44 = .ok (.getfield 38, 3) := by decide +kernel
theorem dX9_kind_47 : decode cX9_kind 47 = .ok (.iload_n 1, 1) := by decide +kernel
theorem dX9_kind_48 : decode cX9_kind 48 = .ok (.iload_n 2, 1) := by decide +kernel
theorem dX9_kind_49 : decode cX9_kind 49 = .ok (.iastore, 1) := by decide +kernel
theorem dX9_kind_50 : decode cX9_kind 50 = .ok (.aload_n 0, 1) := by decide +kernel
theorem dX9_kind_51 : decode cX9_kind 51 = .ok (.getfield 41, 3) := by decide +kernel
theorem dX9_kind_54 : decode cX9_kind 54 = .ok (.iload_n 1, 1) := by decide +kernel
theorem dX9_kind_55 : decode cX9_kind 55 = .ok (.iload_n 3, 1) := by decide +kernel
theorem dX9_kind_56 : decode cX9_kind 56 = .ok (.iastore, 1) := by decide +kernel
theorem dX9_kind_57 : decode cX9_kind 57 = .ok (.aload_n 0, 1) := by decide +kernel
theorem dX9_kind_58 : decode cX9_kind 58 = .ok (.iconst 1, 1) := by decide +kernel
theorem dX9_kind_59 : decode cX9_kind 59 = .ok (.putfield 117, 3) := by decide +kernel
theorem dX9_kind_62 : decode cX9_kind 62 = .ok (.iconst 1, 1) := by decide +kernel
theorem dX9_kind_63 : decode cX9_kind 63 = .ok (.ireturn, 1) := by decide +kernel
theorem dX9_branch_0 : decode cX9_branch 0 = .ok (.aload_n 0, 1) := by decide +kernel
theorem dX9_branch_1 : decode cX9_branch 1 = .ok (.getfield 124, 3) := by decide +kernel
theorem dX9_branch_4 : decode cX9_branch 4 = .ok (.sipush 200, 3) := by decide +kernel
theorem dX9_branch_7 : decode cX9_branch 7 = .ok (.if_icmp .eq 67, 3) := by decide +kernel
theorem dX9_branch_10 : decode cX9_branch 10 = .ok (.iload_n 1, 1) := by decide +kernel
theorem dX9_branch_11 : decode cX9_branch 11 = .ok (.iconst 0, 1) := by decide +kernel
theorem dX9_branch_12 : decode cX9_branch 12 = .ok (.aload_n 0, 1) := by decide +kernel
theorem dX9_branch_13 : decode cX9_branch 13 = .ok (.getfield 105, 3) := by decide +kernel
theorem dX9_branch_16 : decode cX9_branch 16 = .ok (.iconst 1, 1) := by decide +kernel
theorem dX9_branch_17 : decode cX9_branch 17 = .ok (.isub, 1) := by decide +kernel
theorem dX9_branch_18 : decode cX9_branch 18 = .ok (.invokestatic 110, 3) := by decide +kernel
theorem dX9_branch_21 : decode cX9_branch 21 = .ok (.ifCond .eq 53, 3) := by decide +kernel
theorem dX9_branch_24 : decode cX9_branch 24 = .ok (.iload_n 2, 1) := by decide +kernel
theorem dX9_branch_25 : decode cX9_branch 25 = .ok (.iconst 0, 1) := by decide +kernel
theorem dX9_branch_26 : decode cX9_branch 26 = .ok (.aload_n 0, 1) := by decide +kernel
theorem dX9_branch_27 : decode cX9_branch 27 = .ok (.getfield 7, 3) := by decide +kernel
theorem dX9_branch_30 : decode cX9_branch 30 = .ok (.iload_n 1, 1) := by decide +kernel
theorem dX9_branch_31 : decode cX9_branch 31 = .ok (.iaload, 1) := by decide +kernel
theorem dX9_branch_32 : decode cX9_branch 32 = .ok (.iconst 1, 1) := by decide +kernel
theorem dX9_branch_33 : decode cX9_branch 33 = .ok (.isub, 1) := by decide +kernel
theorem dX9_branch_34 : decode cX9_branch 34 = .ok (.invokestatic 110, 3) := by decide +kernel
theorem dX9_branch_37 : decode cX9_branch 37 = .ok (.ifCond .eq 37, 3) := by decide +kernel
theorem dX9_branch_40 : decode cX9_branch 40 = .ok (.iload_n 3, 1) := by decide +kernel
theorem dX9_branch_41 : decode cX9_branch 41 = .ok (.iconst 0, 1) := by decide +kernel
theorem dX9_branch_42 : decode cX9_branch 42 = .ok (.bipush 7, 2) := by decide +kernel
theorem dX9_branch_44 : decode cX9_branch 44 = .ok (.invokestatic 110, 3) := by decide +kernel
theorem dX9_branch_47 : decode cX9_branch 47 = .ok (.ifCond .eq 27, 3) := by decide +kernel
theorem dX9_branch_50 : decode cX9_branch 50 = .ok (.aload_n 0, 1) := by decide +kernel
theorem dX9_branch_51 : decode cX9_branch 51 = .ok (.getfield 38, 3) := by decide +kernel
theorem dX9_branch_54 : decode cX9_branch 54 = .ok (.iload_n 3, 1) := by decide +kernel
theorem dX9_branch_55 : decode cX9_branch 55 = .ok (.iaload, 1) := by decide +kernel
theorem dX9_branch_56 : decode cX9_branch 56 = .ok (.ifCond .eq 18, 3) := by decide +kernel
theorem dX9_branch_59 : decode cX9_branch 59 = .ok (.iload 4, 2) := by decide +kernel
theorem dX9_branch_61 : decode cX9_branch 61 = .ok (.iconst 0, 1) := by decide +kernel
theorem dX9_branch_62 : decode cX9_branch 62 = .ok (.aload_n 0, 1) := by decide +kernel
theorem dX9_branch_63 : decode cX9_branch 63 = .ok (.getfield 121, 3) := by decide +kernel
theorem dX9_branch_66 : decode cX9_branch 66 = .ok (.iconst 1, 1) := by decide +kernel
theorem dX9_branch_67 : decode cX9_branch 67 = .ok (.isub, 1) := by decide +kernel
theorem dX9_branch_68 : decode cX9_branch 68 = .ok (.invokestatic 110, 3) := by decide +kernel
theorem dX9_branch_71 : decode cX9_branch 71 = .ok (.ifCond .ne 5, 3) := by decide +kernel
theorem dX9_branch_74 : decode cX9_branch 74 = .ok (.iconst (-1), 1) := by decide +kernel
theorem dX9_branch_75 : decode cX9_branch 75 = .ok (.ireturn, 1) := by decide +kernel
theorem dX9_branch_76 : decode cX9_branch 76 = .ok (.aload_n 0, 1) := by decide +kernel
theorem dX9_branch_77 : decode cX9_branch 77 = .ok (.getfield 26, 3) := by decide +kernel
theorem dX9_branch_80 : decode cX9_branch 80 = .ok (.aload_n 0, 1) := by decide +kernel
theorem dX9_branch_81 : decode cX9_branch 81 = .ok (.getfield 124, 3) := by decide +kernel
theorem dX9_branch_84 : decode cX9_branch 84 = .ok (.iload_n 1, 1) := by decide +kernel
theorem dX9_branch_85 : decode cX9_branch 85 = .ok (.iastore, 1) := by decide +kernel
theorem dX9_branch_86 : decode cX9_branch 86 = .ok (.aload_n 0, 1) := by decide +kernel
theorem dX9_branch_87 : decode cX9_branch 87 = .ok (.getfield 29, 3) := by decide +kernel
theorem dX9_branch_90 : decode cX9_branch 90 = .ok (.aload_n 0, 1) := by decide +kernel
theorem dX9_branch_91 : decode cX9_branch 91 = .ok (.getfield 124, 3) := by decide +kernel
theorem dX9_branch_94 : decode cX9_branch 94 = .ok (.iload_n 2, 1) := by decide +kernel
theorem dX9_branch_95 : decode cX9_branch 95 = .ok (.iastore, 1) := by decide +kernel
theorem dX9_branch_96 : decode cX9_branch 96 = .ok (.aload_n 0, 1) := by decide +kernel
theorem dX9_branch_97 : decode cX9_branch 97 = .ok (.getfield 32, 3) := by decide +kernel
theorem dX9_branch_100 : decode cX9_branch 100 = .ok (.aload_n 0, 1) := by decide +kernel
theorem dX9_branch_101 : decode cX9_branch 101 = .ok (.getfield 124, 3) := by decide +kernel
theorem dX9_branch_104 : decode cX9_branch 104 = .ok (.iload_n 3, 1) := by decide +kernel
theorem dX9_branch_105 : decode cX9_branch 105 = .ok (.iastore, 1) := by decide +kernel
theorem dX9_branch_106 : decode cX9_branch 106 = .ok (.aload_n 0, 1) := by decide +kernel
theorem dX9_branch_107 : decode cX9_branch 107 = .ok (.getfield 35, 3) := by decide +kernel
theorem dX9_branch_110 : decode cX9_branch 110 = .ok (.aload_n 0, 1) := by decide +kernel
theorem dX9_branch_111 : decode cX9_branch 111 = .ok (.getfield 124, 3) := by decide +kernel
theorem dX9_branch_114 : decode cX9_branch 114 = .ok (.iload 4, 2) := by decide +kernel
theorem dX9_branch_116 : decode cX9_branch 116 = .ok (.iastore, 1) := by decide +kernel
theorem dX9_branch_117 : decode cX9_branch 117 = .ok (.aload_n 0, 1) := by decide +kernel
theorem dX9_branch_118 : decode cX9_branch 118 = .ok (.dup, 1) := by decide +kernel
theorem dX9_branch_119 : decode cX9_branch 119 = .ok (.getfield 124, 3) := by decide +kernel
theorem dX9_branch_122 : decode cX9_branch 122 = .ok (.iconst 1, 1) := by decide +kernel
theorem dX9_branch_123 : decode cX9_branch 123 = .ok (.iadd, 1) := by decide +kernel
theorem dX9_branch_124 : decode cX9_branch 124 = .ok (.putfield 124, 3) := by decide +kernel
theorem dX9_branch_127 : decode cX9_branch 127 = .ok (.aload_n 0, 1) := by decide +kernel
theorem dX9_branch_128 : decode cX9_branch 128 = .ok (.iconst 1, 1) := by decide +kernel
theorem dX9_branch_129 : decode cX9_branch 129 = .ok (.putfield 117, 3) := by decide +kernel
theorem dX9_branch_132 : decode cX9_branch 132 = .ok (.aload_n 0, 1) := by decide +kernel
theorem dX9_branch_133 : decode cX9_branch 133 = .ok (.getfield 124, 3) := by decide +kernel
theorem dX9_branch_136 : decode cX9_branch 136 = .ok (.iconst 1, 1) := by decide +kernel
theorem dX9_branch_137 : decode cX9_branch 137 = .ok (.isub, 1) := by decide +kernel
theorem dX9_branch_138 : decode cX9_branch 138 = .ok (.ireturn, 1) := by decide +kernel
theorem dX9_thunks_0 : decode cX9_thunks 0 = .ok (.iload_n 1, 1) := by decide +kernel
theorem dX9_thunks_1 : decode cX9_thunks 1 = .ok (.iconst 1, 1) := by decide +kernel
theorem dX9_thunks_2 : decode cX9_thunks 2 = .ok (.bipush 64, 2) := by decide +kernel
theorem dX9_thunks_4 : decode cX9_thunks 4 = .ok (.invokestatic 110, 3) := by decide +kernel
theorem dX9_thunks_7 : decode cX9_thunks 7 = .ok (.ifCond .eq 32, 3) := by decide +kernel
theorem dX9_thunks_10 : decode cX9_thunks 10 = .ok (.iload_n 2, 1) := by decide +kernel
theorem dX9_thunks_11 : decode cX9_thunks 11 = .ok (.iconst 0, 1) := by decide +kernel
theorem dX9_thunks_12 : decode cX9_thunks 12 = .ok (.bipush 6, 2) := by decide +kernel
theorem dX9_thunks_14 : decode cX9_thunks 14 = .ok (.invokestatic 110, 3) := by decide +kernel
theorem dX9_thunks_17 : decode cX9_thunks 17 = .ok (.ifCond .eq 22, 3) := by decide +kernel
theorem dX9_thunks_20 : decode cX9_thunks 20 = .ok (.iload_n 3, 1) := by decide +kernel
theorem dX9_thunks_21 : decode cX9_thunks 21 = .ok (.iconst 0, 1) := by decide +kernel
theorem dX9_thunks_22 : decode cX9_thunks 22 = .ok (.bipush 7, 2) := by decide +kernel
theorem dX9_thunks_24 : decode cX9_thunks 24 = .ok (.invokestatic 110, 3) := by decide +kernel
theorem dX9_thunks_27 : decode cX9_thunks 27 = .ok (.ifCond .eq 12, 3) := by decide +kernel
theorem dX9_thunks_30 : decode cX9_thunks 30 = .ok (.aload_n 0, 1) := by decide +kernel
theorem dX9_thunks_31 : decode cX9_thunks 31 = .ok (.getfield 38, 3) := by decide +kernel
theorem dX9_thunks_34 : decode cX9_thunks 34 = .ok (.iload_n 3, 1) := by decide +kernel
theorem dX9_thunks_35 : decode cX9_thunks 35 = .ok (.iaload, 1) := by decide +kernel
theorem dX9_thunks_36 : decode cX9_thunks 36 = .ok (.ifCond .ne 5, 3) := by decide +kernel
theorem dX9_thunks_39 : decode cX9_thunks 39 = .ok (.iconst 0, 1) := by decide +kernel
theorem dX9_thunks_40 : decode cX9_thunks 40 = .ok (.ireturn, 1) := by decide +kernel
theorem dX9_thunks_41 : decode cX9_thunks 41 = .ok (.aload_n 0, 1) := by decide +kernel
theorem dX9_thunks_42 : decode cX9_thunks 42 = .ok (.iload_n 1, 1) := by decide +kernel
theorem dX9_thunks_43 : decode cX9_thunks 43 = .ok (.putfield 127, 3) := by decide +kernel
theorem dX9_thunks_46 : decode cX9_thunks 46 = .ok (.aload_n 0, 1) := by decide +kernel
theorem dX9_thunks_47 : decode cX9_thunks 47 = .ok (.iload_n 2, 1) := by decide +kernel
theorem dX9_thunks_48 : decode cX9_thunks 48 = .ok (.putfield 130, 3) := by decide +kernel
theorem dX9_thunks_51 : decode cX9_thunks 51 = .ok (.aload_n 0, 1) := by decide +kernel
theorem dX9_thunks_52 : decode cX9_thunks 52 = .ok (.iload_n 3, 1) := by decide +kernel
theorem dX9_thunks_53 : decode cX9_thunks 53 = .ok (.putfield 133, 3) := by decide +kernel
theorem dX9_thunks_56 : decode cX9_thunks 56 = .ok (.aload_n 0, 1) := by decide +kernel
theorem dX9_thunks_57 : decode cX9_thunks 57 = .ok (.iconst 1, 1) := by decide +kernel
theorem dX9_thunks_58 : decode cX9_thunks 58 = .ok (.putfield 117, 3) := by decide +kernel
theorem dX9_thunks_61 : decode cX9_thunks 61 = .ok (.iconst 1, 1) := by decide +kernel
theorem dX9_thunks_62 : decode cX9_thunks 62 = .ok (.ireturn, 1) := by decide +kernel
theorem dX9_base_0 : decode cX9_base 0 = .ok (.iload_n 1, 1) := by decide +kernel
theorem dX9_base_1 : decode cX9_base 1 = .ok (.ifCond .ge 5, 3) := by decide +kernel
theorem dX9_base_4 : decode cX9_base 4 = .ok (.iconst 0, 1) := by decide +kernel
theorem dX9_base_5 : decode cX9_base 5 = .ok (.ireturn, 1) := by decide +kernel
theorem dX9_base_6 : decode cX9_base 6 = .ok (.aload_n 0, 1) := by decide +kernel
theorem dX9_base_7 : decode cX9_base 7 = .ok (.iload_n 1, 1) := by decide +kernel
theorem dX9_base_8 : decode cX9_base 8 = .ok (.putfield 136, 3) := by decide +kernel
theorem dX9_base_11 : decode cX9_base 11 = .ok (.aload_n 0, 1) := by decide +kernel
theorem dX9_base_12 : decode cX9_base 12 = .ok (.iconst 1, 1) := by decide +kernel
theorem dX9_base_13 : decode cX9_base 13 = .ok (.putfield 117, 3) := by decide +kernel
theorem dX9_base_16 : decode cX9_base 16 = .ok (.iconst 1, 1) := by decide +kernel
theorem dX9_base_17 : decode cX9_base 17 = .ok (.ireturn, 1) := by decide +kernel
theorem dX9_resize_0 : decode cX9_resize 0 = .ok (.iload_n 1, 1) := by decide +kernel
theorem dX9_resize_1 : decode cX9_resize 1 = .ok (.iconst 0, 1) := by decide +kernel
theorem dX9_resize_2 : decode cX9_resize 2 = .ok (.aload_n 0, 1) := by decide +kernel
theorem dX9_resize_3 : decode cX9_resize 3 = .ok (.getfield 105, 3) := by decide +kernel
theorem dX9_resize_6 : decode cX9_resize 6 = .ok (.iconst 1, 1) := by decide +kernel
theorem dX9_resize_7 : decode cX9_resize 7 = .ok (.isub, 1) := by decide +kernel
theorem dX9_resize_8 : decode cX9_resize 8 = .ok (.invokestatic 110, 3) := by decide +kernel
theorem dX9_resize_11 : decode cX9_resize 11 = .ok (.ifCond .eq 13, 3) := by decide +kernel
theorem dX9_resize_14 : decode cX9_resize 14 = .ok (.iload_n 2, 1) := by decide +kernel
theorem dX9_resize_15 : decode cX9_resize 15 = .ok (.iconst 0, 1) := by decide +kernel
theorem dX9_resize_16 : decode cX9_resize 16 = .ok (.ldc 109, 2) := by decide +kernel
theorem dX9_resize_18 : decode cX9_resize 18 = .ok (.invokestatic 110, 3) := by decide +kernel
theorem dX9_resize_21 : decode cX9_resize 21 = .ok (.ifCond .ne 5, 3) := by decide +kernel
theorem dX9_resize_24 : decode cX9_resize 24 = .ok (.iconst 0, 1) := by decide +kernel
theorem dX9_resize_25 : decode cX9_resize 25 = .ok (.ireturn, 1) := by decide +kernel
theorem dX9_resize_26 : decode cX9_resize 26 = .ok (.iconst 0, 1) := by decide +kernel
theorem dX9_resize_27 : decode cX9_resize 27 = .ok (.istore_n 3, 1) := by decide +kernel
theorem dX9_resize_28 : decode cX9_resize 28 = .ok (.iload_n 3, 1) := by decide +kernel
theorem dX9_resize_29 : decode cX9_resize 29 = .ok (.aload_n 0, 1) := by decide +kernel
theorem dX9_resize_30 : decode cX9_resize 30 = .ok (.getfield 121, 3) := by decide +kernel
theorem dX9_resize_33 : decode cX9_resize 33 = .ok (.if_icmp .ge 31, 3) := by decide +kernel
theorem dX9_resize_36 : decode cX9_resize 36 = .ok (.aload_n 0, 1) := by decide +kernel
theorem dX9_resize_37 : decode cX9_resize 37 = .ok (.getfield 20, 3) := by decide +kernel
theorem dX9_resize_40 : decode cX9_resize 40 = .ok (.iload_n 3, 1) := by decide +kernel
theorem dX9_resize_41 : decode cX9_resize 41 = .ok (.iaload, 1) := by decide +kernel
theorem dX9_resize_42 : decode cX9_resize 42 = .ok (.iload_n 1, 1) := by decide +kernel
theorem dX9_resize_43 : decode cX9_resize 43 = .ok (.if_icmp .ne 15, 3) := by decide +kernel
theorem dX9_resize_46 : decode cX9_resize 46 = .ok (.aload_n 0, 1) := by decide +kernel
theorem dX9_resize_47 : decode cX9_resize 47 = .ok (.getfield 23, 3) := by decide +kernel
theorem dX9_resize_50 : decode cX9_resize 50 = .ok (.iload_n 3, 1) := by decide +kernel
theorem dX9_resize_51 : decode cX9_resize 51 = .ok (.iaload, 1) := by decide +kernel
theorem dX9_resize_52 : decode cX9_resize 52 = .ok (.iload_n 2, 1) := by decide +kernel
theorem dX9_resize_53 : decode cX9_resize 53 = .ok (.if_icmp .le 5, 3) := by decide +kernel
theorem dX9_resize_56 : decode cX9_resize 56 = .ok (.iconst 0, 1) := by decide +kernel
theorem dX9_resize_57 : decode cX9_resize 57 = .ok (.ireturn, 1) := by decide +kernel
theorem dX9_resize_58 : decode cX9_resize 58 = .ok (.iinc 3 1, 3) := by decide +kernel
theorem dX9_resize_61 : decode cX9_resize 61 = .ok (.goto (-33), 3) := by decide +kernel
theorem dX9_resize_64 : decode cX9_resize 64 = .ok (.iconst 0, 1) := by decide +kernel
theorem dX9_resize_65 : decode cX9_resize 65 = .ok (.istore_n 3, 1) := by decide +kernel
theorem dX9_resize_66 : decode cX9_resize 66 = .ok (.iload_n 3, 1) := by decide +kernel
theorem dX9_resize_67 : decode cX9_resize 67 = .ok (.aload_n 0, 1) := by decide +kernel
theorem dX9_resize_68 : decode cX9_resize 68 = .ok (.getfield 124, 3) := by decide +kernel
theorem dX9_resize_71 : decode cX9_resize 71 = .ok (.if_icmp .ge 31, 3) := by decide +kernel
theorem dX9_resize_74 : decode cX9_resize 74 = .ok (.aload_n 0, 1) := by decide +kernel
theorem dX9_resize_75 : decode cX9_resize 75 = .ok (.getfield 26, 3) := by decide +kernel
theorem dX9_resize_78 : decode cX9_resize 78 = .ok (.iload_n 3, 1) := by decide +kernel
theorem dX9_resize_79 : decode cX9_resize 79 = .ok (.iaload, 1) := by decide +kernel
theorem dX9_resize_80 : decode cX9_resize 80 = .ok (.iload_n 1, 1) := by decide +kernel
theorem dX9_resize_81 : decode cX9_resize 81 = .ok (.if_icmp .ne 15, 3) := by decide +kernel
theorem dX9_resize_84 : decode cX9_resize 84 = .ok (.aload_n 0, 1) := by decide +kernel
theorem dX9_resize_85 : decode cX9_resize 85 = .ok (.getfield 29, 3) := by decide +kernel
theorem dX9_resize_88 : decode cX9_resize 88 = .ok (.iload_n 3, 1) := by decide +kernel
theorem dX9_resize_89 : decode cX9_resize 89 = .ok (.iaload, 1) := by decide +kernel
theorem dX9_resize_90 : decode cX9_resize 90 = .ok (.iload_n 2, 1) := by decide +kernel
theorem dX9_resize_91 : decode cX9_resize 91 = .ok (.if_icmp .lt 5, 3) := by decide +kernel
theorem dX9_resize_94 : decode cX9_resize 94 = .ok (.iconst 0, 1) := by decide +kernel
theorem dX9_resize_95 : decode cX9_resize 95 = .ok (.ireturn, 1) := by decide +kernel
theorem dX9_resize_96 : decode cX9_resize 96 = .ok (.iinc 3 1, 3) := by decide +kernel
theorem dX9_resize_99 : decode cX9_resize 99 = .ok (.goto (-33), 3) := by decide +kernel
theorem dX9_resize_102 : decode cX9_resize 102 = .ok (.aload_n 0, 1) := by decide +kernel
theorem dX9_resize_103 : decode cX9_resize 103 = .ok (.getfield 7, 3) := by decide +kernel
theorem dX9_resize_106 : decode cX9_resize 106 = .ok (.iload_n 1, 1) := by decide +kernel
theorem dX9_resize_107 : decode cX9_resize 107 = .ok (.iload_n 2, 1) := by decide +kernel
theorem dX9_resize_108 : decode cX9_resize 108 = .ok (.iastore, 1) := by decide +kernel
theorem dX9_resize_109 : decode cX9_resize 109 = .ok (.aload_n 0, 1) := by decide +kernel
theorem dX9_resize_110 : decode cX9_resize 110 = .ok (.iconst 1, 1) := by decide +kernel
theorem dX9_resize_111 : decode cX9_resize 111 = .ok (.putfield 117, 3) := by decide +kernel
theorem dX9_resize_114 : decode cX9_resize 114 = .ok (.iconst 1, 1) := by decide +kernel
theorem dX9_resize_115 : decode cX9_resize 115 = .ok (.ireturn, 1) := by decide +kernel
theorem dX9_retarget_0 : decode cX9_retarget 0 = .ok (.iload_n 1, 1) := by decide +kernel
theorem dX9_retarget_1 : decode cX9_retarget 1 = .ok (.iconst 0, 1) := by decide +kernel
theorem dX9_retarget_2 : decode cX9_retarget 2 = .ok (.aload_n 0, 1) := by decide +kernel
theorem dX9_retarget_3 : decode cX9_retarget 3 = .ok (.getfield 124, 3) := by decide +kernel
theorem dX9_retarget_6 : decode cX9_retarget 6 = .ok (.iconst 1, 1) := by decide +kernel
theorem dX9_retarget_7 : decode cX9_retarget 7 = .ok (.isub, 1) := by decide +kernel
theorem dX9_retarget_8 : decode cX9_retarget 8 = .ok (.invokestatic 110, 3) := by decide +kernel
theorem dX9_retarget_11 : decode cX9_retarget 11 = .ok (.ifCond .eq 17, 3) := by decide +kernel
theorem dX9_retarget_14 : decode cX9_retarget 14 = .ok (.iload_n 2, 1) := by decide +kernel
theorem dX9_retarget_15 : decode cX9_retarget 15 = .ok (.iconst 0, 1) := by decide +kernel
theorem dX9_retarget_16 : decode cX9_retarget 16 = .ok (.aload_n 0, 1) := by decide +kernel
theorem dX9_retarget_17 : decode cX9_retarget 17 = .ok (.getfield 121, 3) := by decide +kernel
theorem dX9_retarget_20 : decode cX9_retarget 20 = .ok (.iconst 1, 1) := by decide +kernel
theorem dX9_retarget_21 : decode cX9_retarget 21 = .ok (.isub, 1) := by decide +kernel
theorem dX9_retarget_22 : decode cX9_retarget 22 = .ok (.invokestatic 110, 3) := by decide +kernel
theorem dX9_retarget_25 : decode cX9_retarget 25 = .ok (.ifCond .ne 5, 3) := by decide +kernel
theorem dX9_retarget_28 : decode cX9_retarget 28 = .ok (.iconst 0, 1) := by decide +kernel
theorem dX9_retarget_29 : decode cX9_retarget 29 = .ok (.ireturn, 1) := by decide +kernel
theorem dX9_retarget_30 : decode cX9_retarget 30 = .ok (.aload_n 0, 1) := by decide +kernel
theorem dX9_retarget_31 : decode cX9_retarget 31 = .ok (.getfield 35, 3) := by decide +kernel
theorem dX9_retarget_34 : decode cX9_retarget 34 = .ok (.iload_n 1, 1) := by decide +kernel
theorem dX9_retarget_35 : decode cX9_retarget 35 = .ok (.iload_n 2, 1) := by decide +kernel
theorem dX9_retarget_36 : decode cX9_retarget 36 = .ok (.iastore, 1) := by decide +kernel
theorem dX9_retarget_37 : decode cX9_retarget 37 = .ok (.aload_n 0, 1) := by decide +kernel
theorem dX9_retarget_38 : decode cX9_retarget 38 = .ok (.iconst 1, 1) := by decide +kernel
theorem dX9_retarget_39 : decode cX9_retarget 39 = .ok (.putfield 117, 3) := by decide +kernel
theorem dX9_retarget_42 : decode cX9_retarget 42 = .ok (.iconst 1, 1) := by decide +kernel
theorem dX9_retarget_43 : decode cX9_retarget 43 = .ok (.ireturn, 1) := by decide +kernel
theorem dX9_upTo_0 : decode cX9_upTo 0 = .ok (.lconst 1, 1) := by decide +kernel
theorem dX9_upTo_1 : decode cX9_upTo 1 = .ok (.iload_n 2, 1) := by decide +kernel
theorem dX9_upTo_2 : decode cX9_upTo 2 = .ok (.lshl, 1) := by decide +kernel
theorem dX9_upTo_3 : decode cX9_upTo 3 = .ok (.lstore_n 3, 1) := by decide +kernel
theorem dX9_upTo_4 : decode cX9_upTo 4 = .ok (.lload_n 0, 1) := by decide +kernel
theorem dX9_upTo_5 : decode cX9_upTo 5 = .ok (.lload_n 3, 1) := by decide +kernel
theorem dX9_upTo_6 : decode cX9_upTo 6 = .ok (.ladd, 1) := by decide +kernel
theorem dX9_upTo_7 : decode cX9_upTo 7 = .ok (.lconst 1, 1) := by decide +kernel
theorem dX9_upTo_8 : decode cX9_upTo 8 = .ok (.lsub, 1) := by decide +kernel
theorem dX9_upTo_9 : decode cX9_upTo 9 = .ok (.lload_n 3, 1) := by decide +kernel
theorem dX9_upTo_10 : decode cX9_upTo 10 = .ok (.ldiv, 1) := by decide +kernel
theorem dX9_upTo_11 : decode cX9_upTo 11 = .ok (.lload_n 3, 1) := by decide +kernel
theorem dX9_upTo_12 : decode cX9_upTo 12 = .ok (.lmul, 1) := by decide +kernel
theorem dX9_upTo_13 : decode cX9_upTo 13 = .ok (.lreturn, 1) := by decide +kernel
theorem dX9_addresses_0 : decode cX9_addresses 0 = .ok (.aload_n 0, 1) := by decide +kernel
theorem dX9_addresses_1 : decode cX9_addresses 1 = .ok (.getfield 136, 3) := by decide +kernel
theorem dX9_addresses_4 : decode cX9_addresses 4 = .ok (.i2l, 1) := by decide +kernel
theorem dX9_addresses_5 : decode cX9_addresses 5 = .ok (.lstore_n 2, 1) := by decide +kernel
theorem dX9_addresses_6 : decode cX9_addresses 6 = .ok (.iconst 0, 1) := by decide +kernel
theorem dX9_addresses_7 : decode cX9_addresses 7 = .ok (.istore 4, 2) := by decide +kernel
theorem dX9_addresses_9 : decode cX9_addresses 9 = .ok (.iload 4, 2) := by decide +kernel
theorem dX9_addresses_11 : decode cX9_addresses 11 = .ok (.aload_n 0, 1) := by decide +kernel
theorem dX9_addresses_12 : decode cX9_addresses 12 = .ok (.getfield 105, 3) := by decide +kernel
theorem dX9_addresses_15 : decode cX9_addresses 15 = .ok (.if_icmp .ge 129, 3) := by decide +kernel
theorem dX9_addresses_18 : decode cX9_addresses 18 = .ok (.lload_n 2, 1) := by decide +kernel
theorem dX9_addresses_19 : decode cX9_addresses 19 = .ok (.aload_n 0, 1) := by decide +kernel
theorem dX9_addresses_20 : decode cX9_addresses 20 = .ok (.getfield 13, 3) := by decide +kernel
theorem dX9_addresses_23 : decode cX9_addresses 23 = .ok (.iload 4, 2) := by decide +kernel
theorem dX9_addresses_25 : decode cX9_addresses 25 = .ok (.iaload, 1) := by decide +kernel
theorem dX9_addresses_26 : decode cX9_addresses 26 = .ok (.invokestatic 139, 3) := by decide +kernel
theorem dX9_addresses_29 : decode cX9_addresses 29 = .ok (.lstore_n 2, 1) := by decide +kernel
theorem dX9_addresses_30 : decode cX9_addresses 30 = .ok (.aload_n 0, 1) := by decide +kernel
theorem dX9_addresses_31 : decode cX9_addresses 31 = .ok (.getfield 44, 3) := by decide +kernel
theorem dX9_addresses_34 : decode cX9_addresses 34 = .ok (.iload 4, 2) := by decide +kernel
theorem dX9_addresses_36 : decode cX9_addresses 36 = .ok (.lload_n 2, 1) := by decide +kernel
theorem dX9_addresses_37 : decode cX9_addresses 37 = .ok (.lastore, 1) := by decide +kernel
theorem dX9_addresses_38 : decode cX9_addresses 38 = .ok (.lload_n 2, 1) := by decide +kernel
theorem dX9_addresses_39 : decode cX9_addresses 39 = .ok (.aload_n 0, 1) := by decide +kernel
theorem dX9_addresses_40 : decode cX9_addresses 40 = .ok (.getfield 7, 3) := by decide +kernel
theorem dX9_addresses_43 : decode cX9_addresses 43 = .ok (.iload 4, 2) := by decide +kernel
theorem dX9_addresses_45 : decode cX9_addresses 45 = .ok (.iaload, 1) := by decide +kernel
theorem dX9_addresses_46 : decode cX9_addresses 46 = .ok (.i2l, 1) := by decide +kernel
theorem dX9_addresses_47 : decode cX9_addresses 47 = .ok (.ladd, 1) := by decide +kernel
theorem dX9_addresses_48 : decode cX9_addresses 48 = .ok (.lstore_n 2, 1) := by decide +kernel
theorem dX9_addresses_49 : decode cX9_addresses 49 = .ok (.aload_n 0, 1) := by decide +kernel
theorem dX9_addresses_50 : decode cX9_addresses 50 = .ok (.getfield 48, 3) := by decide +kernel
theorem dX9_addresses_53 : decode cX9_addresses 53 = .ok (.iload 4, 2) := by decide +kernel
theorem dX9_addresses_55 : decode cX9_addresses 55 = .ok (.lload_n 2, 1) := by decide +kernel
theorem dX9_addresses_56 : decode cX9_addresses 56 = .ok (.lastore, 1) := by decide +kernel
theorem dX9_addresses_57 : decode cX9_addresses 57 = .ok (.iconst 0, 1) := by decide +kernel
theorem dX9_addresses_58 : decode cX9_addresses 58 = .ok (.istore 5, 2) := by decide +kernel
theorem dX9_addresses_60 : decode cX9_addresses 60 = .ok (.iload 5, 2) := by decide +kernel
theorem dX9_addresses_62 : decode cX9_addresses 62 = .ok (.iload_n 1, 1) := by decide +kernel
theorem dX9_addresses_63 : decode cX9_addresses 63 = .ok (.if_icmp .ge 49, 3) := by decide +kernel
theorem dX9_addresses_66 : decode cX9_addresses 66 = .ok (.aload_n 0, 1) := by decide +kernel
theorem dX9_addresses_67 : decode cX9_addresses 67 = .ok (.getfield 84, 3) := by decide +kernel
theorem dX9_addresses_70 : decode cX9_addresses 70 = .ok (.iload 5, 2) := by decide +kernel
theorem dX9_addresses_72 : decode cX9_addresses 72 = .ok (.iaload, 1) := by decide +kernel
theorem dX9_addresses_73 : decode cX9_addresses 73 = .ok (.iload 4, 2) := by decide +kernel
theorem dX9_addresses_75 : decode cX9_addresses 75 = .ok (.if_icmp .eq 6, 3) := by decide +kernel
theorem dX9_addresses_78 : decode cX9_addresses 78 = .ok (.goto 28, 3) := by decide +kernel
theorem dX9_addresses_81 : decode cX9_addresses 81 = .ok (.lload_n 2, 1) := by decide +kernel
theorem dX9_addresses_82 : decode cX9_addresses 82 = .ok (.aload_n 0, 1) := by decide +kernel
theorem dX9_addresses_83 : decode cX9_addresses 83 = .ok (.getfield 130, 3) := by decide +kernel
theorem dX9_addresses_86 : decode cX9_addresses 86 = .ok (.invokestatic 139, 3) := by decide +kernel
theorem dX9_addresses_89 : decode cX9_addresses 89 = .ok (.lstore_n 2, 1) := by decide +kernel
theorem dX9_addresses_90 : decode cX9_addresses 90 = .ok (.aload_n 0, 1) := by decide +kernel
theorem dX9_addresses_91 : decode cX9_addresses 91 = .ok (.getfield 81, 3) := by decide +kernel
theorem dX9_addresses_94 : decode cX9_addresses 94 = .ok (.iload 5, 2) := by decide +kernel
theorem dX9_addresses_96 : decode cX9_addresses 96 = .ok (.lload_n 2, 1) := by decide +kernel
theorem dX9_addresses_97 : decode cX9_addresses 97 = .ok (.lastore, 1) := by decide +kernel
theorem dX9_addresses_98 : decode cX9_addresses 98 = .ok (.lload_n 2, 1) := by decide +kernel
theorem dX9_addresses_99 : decode cX9_addresses 99 = .ok (.aload_n 0, 1) := by decide +kernel
theorem dX9_addresses_100 : decode cX9_addresses 100 = .ok (.getfield 127, 3) := by decide +kernel
theorem dX9_addresses_103 : decode cX9_addresses 103 = .ok (.i2l, 1) := by decide +kernel
theorem dX9_addresses_104 : decode cX9_addresses 104 = .ok (.ladd, 1) := by decide +kernel
theorem dX9_addresses_105 : decode cX9_addresses 105 = .ok (.lstore_n 2, 1) := by decide +kernel
theorem dX9_addresses_106 : decode cX9_addresses 106 = .ok (.iinc 5 1, 3) := by decide +kernel
theorem dX9_addresses_109 : decode cX9_addresses 109 = .ok (.goto (-49), 3) := by decide +kernel
theorem dX9_addresses_112 : decode cX9_addresses 112 = .ok (.aload_n 0, 1) := by decide +kernel
theorem dX9_addresses_113 : decode cX9_addresses 113 = .ok (.getfield 54, 3) := by decide +kernel
theorem dX9_addresses_116 : decode cX9_addresses 116 = .ok (.iload 4, 2) := by decide +kernel
theorem dX9_addresses_118 : decode cX9_addresses 118 = .ok (.aload_n 0, 1) := by decide +kernel
theorem dX9_addresses_119 : decode cX9_addresses 119 = .ok (.getfield 127, 3) := by decide +kernel
theorem dX9_addresses_122 : decode cX9_addresses 122 = .ok (.ifCond .le 14, 3) := by decide +kernel
theorem dX9_addresses_125 : decode cX9_addresses 125 = .ok (.lload_n 2, 1) := by decide +kernel
theorem dX9_addresses_126 : decode cX9_addresses 126 = .ok (.aload_n 0, 1) := by decide +kernel
theorem dX9_addresses_127 : decode cX9_addresses 127 = .ok (.getfield 130, 3) := by decide +kernel
theorem dX9_addresses_130 : decode cX9_addresses 130 = .ok (.invokestatic 139, 3) := by decide +kernel
theorem dX9_addresses_133 : decode cX9_addresses 133 = .ok (.goto 4, 3) := by decide +kernel
theorem dX9_addresses_136 : decode cX9_addresses 136 = .ok (.lload_n 2, 1) := by decide +kernel
theorem dX9_addresses_137 : decode cX9_addresses 137 = .ok (.lastore, 1) := by decide +kernel
theorem dX9_addresses_138 : decode cX9_addresses 138 = .ok (.iinc 4 1, 3) := by decide +kernel
theorem dX9_addresses_141 : decode cX9_addresses 141 = .ok (.goto (-132), 3) := by decide +kernel
theorem dX9_addresses_144 : decode cX9_addresses 144 = .ok (.aload_n 0, 1) := by decide +kernel
theorem dX9_addresses_145 : decode cX9_addresses 145 = .ok (.lload_n 2, 1) := by decide +kernel
theorem dX9_addresses_146 : decode cX9_addresses 146 = .ok (.putfield 143, 3) := by decide +kernel
theorem dX9_addresses_149 : decode cX9_addresses 149 = .ok (.iconst 0, 1) := by decide +kernel
theorem dX9_addresses_150 : decode cX9_addresses 150 = .ok (.istore 4, 2) := by decide +kernel
theorem dX9_addresses_152 : decode cX9_addresses 152 = .ok (.iload 4, 2) := by decide +kernel
theorem dX9_addresses_154 : decode cX9_addresses 154 = .ok (.aload_n 0, 1) := by decide +kernel
theorem dX9_addresses_155 : decode cX9_addresses 155 = .ok (.getfield 121, 3) := by decide +kernel
theorem dX9_addresses_158 : decode cX9_addresses 158 = .ok (.if_icmp .ge 37, 3) := by decide +kernel
theorem dX9_addresses_161 : decode cX9_addresses 161 = .ok (.aload_n 0, 1) := by decide +kernel
theorem dX9_addresses_162 : decode cX9_addresses 162 = .ok (.getfield 57, 3) := by decide +kernel
theorem dX9_addresses_165 : decode cX9_addresses 165 = .ok (.iload 4, 2) := by decide +kernel
theorem dX9_addresses_167 : decode cX9_addresses 167 = .ok (.aload_n 0, 1) := by decide +kernel
theorem dX9_addresses_168 : decode cX9_addresses 168 = .ok (.getfield 44, 3) := by decide +kernel
theorem dX9_addresses_171 : decode cX9_addresses 171 = .ok (.aload_n 0, 1) := by decide +kernel
theorem dX9_addresses_172 : decode cX9_addresses 172 = .ok (.getfield 20, 3) := by decide +kernel
theorem dX9_addresses_175 : decode cX9_addresses 175 = .ok (.iload 4, 2) := by decide +kernel
theorem dX9_addresses_177 : decode cX9_addresses 177 = .ok (.iaload, 1) := by decide +kernel
theorem dX9_addresses_178 : decode cX9_addresses 178 = .ok (.laload, 1) := by decide +kernel
theorem dX9_addresses_179 : decode cX9_addresses 179 = .ok (.aload_n 0, 1) := by decide +kernel
theorem dX9_addresses_180 : decode cX9_addresses 180 = .ok (.getfield 23, 3) := by decide +kernel
theorem dX9_addresses_183 : decode cX9_addresses 183 = .ok (.iload 4, 2) := by decide +kernel
theorem dX9_addresses_185 : decode cX9_addresses 185 = .ok (.iaload, 1) := by decide +kernel
theorem dX9_addresses_186 : decode cX9_addresses 186 = .ok (.i2l, 1) := by decide +kernel
theorem dX9_addresses_187 : decode cX9_addresses 187 = .ok (.ladd, 1) := by decide +kernel
theorem dX9_addresses_188 : decode cX9_addresses 188 = .ok (.lastore, 1) := by decide +kernel
theorem dX9_addresses_189 : decode cX9_addresses 189 = .ok (.iinc 4 1, 3) := by decide +kernel
theorem dX9_addresses_192 : decode cX9_addresses 192 = .ok (.goto (-40), 3) := by decide +kernel
theorem dX9_addresses_195 : decode cX9_addresses 195 = .ok (.iconst 0, 1) := by decide +kernel
theorem dX9_addresses_196 : decode cX9_addresses 196 = .ok (.istore 4, 2) := by decide +kernel
theorem dX9_addresses_198 : decode cX9_addresses 198 = .ok (.iload 4, 2) := by decide +kernel
theorem dX9_addresses_200 : decode cX9_addresses 200 = .ok (.aload_n 0, 1) := by decide +kernel
theorem dX9_addresses_201 : decode cX9_addresses 201 = .ok (.getfield 124, 3) := by decide +kernel
theorem dX9_addresses_204 : decode cX9_addresses 204 = .ok (.if_icmp .ge 37, 3) := by decide +kernel
theorem dX9_addresses_207 : decode cX9_addresses 207 = .ok (.aload_n 0, 1) := by decide +kernel
theorem dX9_addresses_208 : decode cX9_addresses 208 = .ok (.getfield 60, 3) := by decide +kernel
theorem dX9_addresses_211 : decode cX9_addresses 211 = .ok (.iload 4, 2) := by decide +kernel
theorem dX9_addresses_213 : decode cX9_addresses 213 = .ok (.aload_n 0, 1) := by decide +kernel
theorem dX9_addresses_214 : decode cX9_addresses 214 = .ok (.getfield 44, 3) := by decide +kernel
theorem dX9_addresses_217 : decode cX9_addresses 217 = .ok (.aload_n 0, 1) := by decide +kernel
theorem dX9_addresses_218 : decode cX9_addresses 218 = .ok (.getfield 26, 3) := by decide +kernel
theorem dX9_addresses_221 : decode cX9_addresses 221 = .ok (.iload 4, 2) := by decide +kernel
theorem dX9_addresses_223 : decode cX9_addresses 223 = .ok (.iaload, 1) := by decide +kernel
theorem dX9_addresses_224 : decode cX9_addresses 224 = .ok (.laload, 1) := by decide +kernel
theorem dX9_addresses_225 : decode cX9_addresses 225 = .ok (.aload_n 0, 1) := by decide +kernel
theorem dX9_addresses_226 : decode cX9_addresses 226 = .ok (.getfield 29, 3) := by decide +kernel
theorem dX9_addresses_229 : decode cX9_addresses 229 = .ok (.iload 4, 2) := by decide +kernel
theorem dX9_addresses_231 : decode cX9_addresses 231 = .ok (.iaload, 1) := by decide +kernel
theorem dX9_addresses_232 : decode cX9_addresses 232 = .ok (.i2l, 1) := by decide +kernel
theorem dX9_addresses_233 : decode cX9_addresses 233 = .ok (.ladd, 1) := by decide +kernel
theorem dX9_addresses_234 : decode cX9_addresses 234 = .ok (.lastore, 1) := by decide +kernel
theorem dX9_addresses_235 : decode cX9_addresses 235 = .ok (.iinc 4 1, 3) := by decide +kernel
theorem dX9_addresses_238 : decode cX9_addresses 238 = .ok (.goto (-40), 3) := by decide +kernel
theorem dX9_addresses_241 : decode cX9_addresses 241 = .ok (.return_, 1) := by decide +kernel
theorem dX9_reaches_0 : decode cX9_reaches 0 = .ok (.lload 4, 2) := by decide +kernel
theorem dX9_reaches_2 : decode cX9_reaches 2 = .ok (.lload_n 2, 1) := by decide +kernel
theorem dX9_reaches_3 : decode cX9_reaches 3 = .ok (.lsub, 1) := by decide +kernel
theorem dX9_reaches_4 : decode cX9_reaches 4 = .ok (.lstore 6, 2) := by decide +kernel
theorem dX9_reaches_6 : decode cX9_reaches 6 = .ok (.lconst 1, 1) := by decide +kernel
theorem dX9_reaches_7 : decode cX9_reaches 7 = .ok (.aload_n 0, 1) := by decide +kernel
theorem dX9_reaches_8 : decode cX9_reaches 8 = .ok (.getfield 41, 3) := by decide +kernel
theorem dX9_reaches_11 : decode cX9_reaches 11 = .ok (.iload_n 1, 1) := by decide +kernel
theorem dX9_reaches_12 : decode cX9_reaches 12 = .ok (.iaload, 1) := by decide +kernel
theorem dX9_reaches_13 : decode cX9_reaches 13 = .ok (.iconst 1, 1) := by decide +kernel
theorem dX9_reaches_14 : decode cX9_reaches 14 = .ok (.isub, 1) := by decide +kernel
theorem dX9_reaches_15 : decode cX9_reaches 15 = .ok (.lshl, 1) := by decide +kernel
theorem dX9_reaches_16 : decode cX9_reaches 16 = .ok (.aload_n 0, 1) := by decide +kernel
theorem dX9_reaches_17 : decode cX9_reaches 17 = .ok (.getfield 38, 3) := by decide +kernel
theorem dX9_reaches_20 : decode cX9_reaches 20 = .ok (.iload_n 1, 1) := by decide +kernel
theorem dX9_reaches_21 : decode cX9_reaches 21 = .ok (.iaload, 1) := by decide +kernel
theorem dX9_reaches_22 : decode cX9_reaches 22 = .ok (.i2l, 1) := by decide +kernel
theorem dX9_reaches_23 : decode cX9_reaches 23 = .ok (.lmul, 1) := by decide +kernel
theorem dX9_reaches_24 : decode cX9_reaches 24 = .ok (.lstore 8, 2) := by decide +kernel
theorem dX9_reaches_26 : decode cX9_reaches 26 = .ok (.lload 6, 2) := by decide +kernel
theorem dX9_reaches_28 : decode cX9_reaches 28 = .ok (.aload_n 0, 1) := by decide +kernel
theorem dX9_reaches_29 : decode cX9_reaches 29 = .ok (.getfield 38, 3) := by decide +kernel
theorem dX9_reaches_32 : decode cX9_reaches 32 = .ok (.iload_n 1, 1) := by decide +kernel
theorem dX9_reaches_33 : decode cX9_reaches 33 = .ok (.iaload, 1) := by decide +kernel
theorem dX9_reaches_34 : decode cX9_reaches 34 = .ok (.i2l, 1) := by decide +kernel
theorem dX9_reaches_35 : decode cX9_reaches 35 = .ok (.lrem, 1) := by decide +kernel
theorem dX9_reaches_36 : decode cX9_reaches 36 = .ok (.lconst 0, 1) := by decide +kernel
theorem dX9_reaches_37 : decode cX9_reaches 37 = .ok (.lcmp, 1) := by decide +kernel
theorem dX9_reaches_38 : decode cX9_reaches 38 = .ok (.ifCond .ne 32, 3) := by decide +kernel
theorem dX9_reaches_41 : decode cX9_reaches 41 = .ok (.lload 6, 2) := by decide +kernel
theorem dX9_reaches_43 : decode cX9_reaches 43 = .ok (.lload 8, 2) := by decide +kernel
theorem dX9_reaches_45 : decode cX9_reaches 45 = .ok (.lneg, 1) := by decide +kernel
theorem dX9_reaches_46 : decode cX9_reaches 46 = .ok (.lcmp, 1) := by decide +kernel
theorem dX9_reaches_47 : decode cX9_reaches 47 = .ok (.ifCond .lt 23, 3) := by decide +kernel
theorem dX9_reaches_50 : decode cX9_reaches 50 = .ok (.lload 6, 2) := by decide +kernel
theorem dX9_reaches_52 : decode cX9_reaches 52 = .ok (.lload 8, 2) := by decide +kernel
theorem dX9_reaches_54 : decode cX9_reaches 54 = .ok (.aload_n 0, 1) := by decide +kernel
theorem dX9_reaches_55 : decode cX9_reaches 55 = .ok (.getfield 38, 3) := by decide +kernel
theorem dX9_reaches_58 : decode cX9_reaches 58 = .ok (.iload_n 1, 1) := by decide +kernel
theorem dX9_reaches_59 : decode cX9_reaches 59 = .ok (.iaload, 1) := by decide +kernel
theorem dX9_reaches_60 : decode cX9_reaches 60 = .ok (.i2l, 1) := by decide +kernel
theorem dX9_reaches_61 : decode cX9_reaches 61 = .ok (.lsub, 1) := by decide +kernel
theorem dX9_reaches_62 : decode cX9_reaches 62 = .ok (.lcmp, 1) := by decide +kernel
theorem dX9_reaches_63 : decode cX9_reaches 63 = .ok (.ifCond .gt 7, 3) := by decide +kernel
theorem dX9_reaches_66 : decode cX9_reaches 66 = .ok (.iconst 1, 1) := by decide +kernel
theorem dX9_reaches_67 : decode cX9_reaches 67 = .ok (.goto 4, 3) := by decide +kernel
theorem dX9_reaches_70 : decode cX9_reaches 70 = .ok (.iconst 0, 1) := by decide +kernel
theorem dX9_reaches_71 : decode cX9_reaches 71 = .ok (.ireturn, 1) := by decide +kernel
theorem dX9_thunkFor_0 : decode cX9_thunkFor 0 = .ok (.iconst (-1), 1) := by decide +kernel
theorem dX9_thunkFor_1 : decode cX9_thunkFor 1 = .ok (.istore_n 3, 1) := by decide +kernel
theorem dX9_thunkFor_2 : decode cX9_thunkFor 2 = .ok (.aload_n 0, 1) := by decide +kernel
theorem dX9_thunkFor_3 : decode cX9_thunkFor 3 = .ok (.getfield 35, 3) := by decide +kernel
theorem dX9_thunkFor_6 : decode cX9_thunkFor 6 = .ok (.iload_n 1, 1) := by decide +kernel
theorem dX9_thunkFor_7 : decode cX9_thunkFor 7 = .ok (.iaload, 1) := by decide +kernel
theorem dX9_thunkFor_8 : decode cX9_thunkFor 8 = .ok (.istore 4, 2) := by decide +kernel
theorem dX9_thunkFor_10 : decode cX9_thunkFor 10 = .ok (.iconst 0, 1) := by decide +kernel
theorem dX9_thunkFor_11 : decode cX9_thunkFor 11 = .ok (.istore 5, 2) := by decide +kernel
theorem dX9_thunkFor_13 : decode cX9_thunkFor 13 = .ok (.iload 5, 2) := by decide +kernel
theorem dX9_thunkFor_15 : decode cX9_thunkFor 15 = .ok (.iload_n 2, 1) := by decide +kernel
theorem dX9_thunkFor_16 : decode cX9_thunkFor 16 = .ok (.if_icmp .ge 108, 3) := by decide +kernel
theorem dX9_thunkFor_19 : decode cX9_thunkFor 19 = .ok (.aload_n 0, 1) := by decide +kernel
theorem dX9_thunkFor_20 : decode cX9_thunkFor 20 = .ok (.getfield 87, 3) := by decide +kernel
theorem dX9_thunkFor_23 : decode cX9_thunkFor 23 = .ok (.iload 5, 2) := by decide +kernel
theorem dX9_thunkFor_25 : decode cX9_thunkFor 25 = .ok (.iaload, 1) := by decide +kernel
theorem dX9_thunkFor_26 : decode cX9_thunkFor 26 = .ok (.iload 4, 2) := by decide +kernel
theorem dX9_thunkFor_28 : decode cX9_thunkFor 28 = .ok (.if_icmp .ne 90, 3) := by decide +kernel
theorem dX9_thunkFor_31 : decode cX9_thunkFor 31 = .ok (.aload_n 0, 1) := by decide +kernel
theorem dX9_thunkFor_32 : decode cX9_thunkFor 32 = .ok (.aload_n 0, 1) := by decide +kernel
theorem dX9_thunkFor_33 : decode cX9_thunkFor 33 = .ok (.getfield 32, 3) := by decide +kernel
theorem dX9_thunkFor_36 : decode cX9_thunkFor 36 = .ok (.iload_n 1, 1) := by decide +kernel
theorem dX9_thunkFor_37 : decode cX9_thunkFor 37 = .ok (.iaload, 1) := by decide +kernel
theorem dX9_thunkFor_38 : decode cX9_thunkFor 38 = .ok (.aload_n 0, 1) := by decide +kernel
theorem dX9_thunkFor_39 : decode cX9_thunkFor 39 = .ok (.getfield 60, 3) := by decide +kernel
theorem dX9_thunkFor_42 : decode cX9_thunkFor 42 = .ok (.iload_n 1, 1) := by decide +kernel
theorem dX9_thunkFor_43 : decode cX9_thunkFor 43 = .ok (.laload, 1) := by decide +kernel
theorem dX9_thunkFor_44 : decode cX9_thunkFor 44 = .ok (.aload_n 0, 1) := by decide +kernel
theorem dX9_thunkFor_45 : decode cX9_thunkFor 45 = .ok (.getfield 81, 3) := by decide +kernel
theorem dX9_thunkFor_48 : decode cX9_thunkFor 48 = .ok (.iload 5, 2) := by decide +kernel
theorem dX9_thunkFor_50 : decode cX9_thunkFor 50 = .ok (.laload, 1) := by decide +kernel
theorem dX9_thunkFor_51 : decode cX9_thunkFor 51 = .ok (.invokevirtual 147, 3) := by decide +kernel
theorem dX9_thunkFor_54 : decode cX9_thunkFor 54 = .ok (.ifCond .eq 64, 3) := by decide +kernel
theorem dX9_thunkFor_57 : decode cX9_thunkFor 57 = .ok (.aload_n 0, 1) := by decide +kernel
theorem dX9_thunkFor_58 : decode cX9_thunkFor 58 = .ok (.aload_n 0, 1) := by decide +kernel
theorem dX9_thunkFor_59 : decode cX9_thunkFor 59 = .ok (.getfield 133, 3) := by decide +kernel
theorem dX9_thunkFor_62 : decode cX9_thunkFor 62 = .ok (.aload_n 0, 1) := by decide +kernel
theorem dX9_thunkFor_63 : decode cX9_thunkFor 63 = .ok (.getfield 81, 3) := by decide +kernel
theorem dX9_thunkFor_66 : decode cX9_thunkFor 66 = .ok (.iload 5, 2) := by decide +kernel
theorem dX9_thunkFor_68 : decode cX9_thunkFor 68 = .ok (.laload, 1) := by decide +kernel
theorem dX9_thunkFor_69 : decode cX9_thunkFor 69 = .ok (.aload_n 0, 1) := by decide +kernel
theorem dX9_thunkFor_70 : decode cX9_thunkFor 70 = .ok (.getfield 57, 3) := by decide +kernel
theorem dX9_thunkFor_73 : decode cX9_thunkFor 73 = .ok (.iload 4, 2) := by decide +kernel
theorem dX9_thunkFor_75 : decode cX9_thunkFor 75 = .ok (.laload, 1) := by decide +kernel
theorem dX9_thunkFor_76 : decode cX9_thunkFor 76 = .ok (.invokevirtual 147, 3) := by decide +kernel
theorem dX9_thunkFor_79 : decode cX9_thunkFor 79 = .ok (.ifCond .ne 6, 3) := by decide +kernel
theorem dX9_thunkFor_82 : decode cX9_thunkFor 82 = .ok (.goto 36, 3) := by decide +kernel
theorem dX9_thunkFor_85 : decode cX9_thunkFor 85 = .ok (.iload_n 3, 1) := by decide +kernel
theorem dX9_thunkFor_86 : decode cX9_thunkFor 86 = .ok (.iconst (-1), 1) := by decide +kernel
theorem dX9_thunkFor_87 : decode cX9_thunkFor 87 = .ok (.if_icmp .eq 28, 3) := by decide +kernel
theorem dX9_thunkFor_90 : decode cX9_thunkFor 90 = .ok (.aload_n 0, 1) := by decide +kernel
theorem dX9_thunkFor_91 : decode cX9_thunkFor 91 = .ok (.getfield 60, 3) := by decide +kernel
theorem dX9_thunkFor_94 : decode cX9_thunkFor 94 = .ok (.iload_n 1, 1) := by decide +kernel
theorem dX9_thunkFor_95 : decode cX9_thunkFor 95 = .ok (.laload, 1) := by decide +kernel
theorem dX9_thunkFor_96 : decode cX9_thunkFor 96 = .ok (.aload_n 0, 1) := by decide +kernel
theorem dX9_thunkFor_97 : decode cX9_thunkFor 97 = .ok (.getfield 81, 3) := by decide +kernel
theorem dX9_thunkFor_100 : decode cX9_thunkFor 100 = .ok (.iload 5, 2) := by decide +kernel
theorem dX9_thunkFor_102 : decode cX9_thunkFor 102 = .ok (.laload, 1) := by decide +kernel
theorem dX9_thunkFor_103 : decode cX9_thunkFor 103 = .ok (.aload_n 0, 1) := by decide +kernel
theorem dX9_thunkFor_104 : decode cX9_thunkFor 104 = .ok (.getfield 81, 3) := by decide +kernel
theorem dX9_thunkFor_107 : decode cX9_thunkFor 107 = .ok (.iload_n 3, 1) := by decide +kernel
theorem dX9_thunkFor_108 : decode cX9_thunkFor 108 = .ok (.laload, 1) := by decide +kernel
theorem dX9_thunkFor_109 : decode cX9_thunkFor 109 = .ok (.invokestatic 151, 3) := by decide +kernel
theorem dX9_thunkFor_112 : decode cX9_thunkFor 112 = .ok (.ifCond .eq 6, 3) := by decide +kernel
theorem dX9_thunkFor_115 : decode cX9_thunkFor 115 = .ok (.iload 5, 2) := by decide +kernel
theorem dX9_thunkFor_117 : decode cX9_thunkFor 117 = .ok (.istore_n 3, 1) := by decide +kernel
theorem dX9_thunkFor_118 : decode cX9_thunkFor 118 = .ok (.iinc 5 1, 3) := by decide +kernel
theorem dX9_thunkFor_121 : decode cX9_thunkFor 121 = .ok (.goto (-108), 3) := by decide +kernel
theorem dX9_thunkFor_124 : decode cX9_thunkFor 124 = .ok (.iload_n 3, 1) := by decide +kernel
theorem dX9_thunkFor_125 : decode cX9_thunkFor 125 = .ok (.ireturn, 1) := by decide +kernel
theorem dX9_isNearer_0 : decode cX9_isNearer 0 = .ok (.lload_n 2, 1) := by decide +kernel
theorem dX9_isNearer_1 : decode cX9_isNearer 1 = .ok (.lload_n 0, 1) := by decide +kernel
theorem dX9_isNearer_2 : decode cX9_isNearer 2 = .ok (.lcmp, 1) := by decide +kernel
theorem dX9_isNearer_3 : decode cX9_isNearer 3 = .ok (.ifCond .ge 9, 3) := by decide +kernel
theorem dX9_isNearer_6 : decode cX9_isNearer 6 = .ok (.lload_n 0, 1) := by decide +kernel
theorem dX9_isNearer_7 : decode cX9_isNearer 7 = .ok (.lload_n 2, 1) := by decide +kernel
theorem dX9_isNearer_8 : decode cX9_isNearer 8 = .ok (.lsub, 1) := by decide +kernel
theorem dX9_isNearer_9 : decode cX9_isNearer 9 = .ok (.goto 6, 3) := by decide +kernel
theorem dX9_isNearer_12 : decode cX9_isNearer 12 = .ok (.lload_n 2, 1) := by decide +kernel
theorem dX9_isNearer_13 : decode cX9_isNearer 13 = .ok (.lload_n 0, 1) := by decide +kernel
theorem dX9_isNearer_14 : decode cX9_isNearer 14 = .ok (.lsub, 1) := by decide +kernel
theorem dX9_isNearer_15 : decode cX9_isNearer 15 = .ok (.lstore 6, 2) := by decide +kernel
theorem dX9_isNearer_17 : decode cX9_isNearer 17 = .ok (.lload 4, 2) := by decide +kernel
theorem dX9_isNearer_19 : decode cX9_isNearer 19 = .ok (.lload_n 0, 1) := by decide +kernel
theorem dX9_isNearer_20 : decode cX9_isNearer 20 = .ok (.lcmp, 1) := by decide +kernel
theorem dX9_isNearer_21 : decode cX9_isNearer 21 = .ok (.ifCond .ge 10, 3) := by decide +kernel
theorem dX9_isNearer_24 : decode cX9_isNearer 24 = .ok (.lload_n 0, 1) := by decide +kernel
theorem dX9_isNearer_25 : decode cX9_isNearer 25 = .ok (.lload 4, 2) := by decide +kernel
theorem dX9_isNearer_27 : decode cX9_isNearer 27 = .ok (.lsub, 1) := by decide +kernel
theorem dX9_isNearer_28 : decode cX9_isNearer 28 = .ok (.goto 7, 3) := by decide +kernel
theorem dX9_isNearer_31 : decode cX9_isNearer 31 = .ok (.lload 4, 2) := by decide +kernel
theorem dX9_isNearer_33 : decode cX9_isNearer 33 = .ok (.lload_n 0, 1) := by decide +kernel
theorem dX9_isNearer_34 : decode cX9_isNearer 34 = .ok (.lsub, 1) := by decide +kernel
theorem dX9_isNearer_35 : decode cX9_isNearer 35 = .ok (.lstore 8, 2) := by decide +kernel
theorem dX9_isNearer_37 : decode cX9_isNearer 37 = .ok (.lload 6, 2) := by decide +kernel
theorem dX9_isNearer_39 : decode cX9_isNearer 39 = .ok (.lload 8, 2) := by decide +kernel
theorem dX9_isNearer_41 : decode cX9_isNearer 41 = .ok (.lcmp, 1) := by decide +kernel
theorem dX9_isNearer_42 : decode cX9_isNearer 42 = .ok (.ifCond .lt 18, 3) := by decide +kernel
theorem dX9_isNearer_45 : decode cX9_isNearer 45 = .ok (.lload 6, 2) := by decide +kernel
theorem dX9_isNearer_47 : decode cX9_isNearer 47 = .ok (.lload 8, 2) := by decide +kernel
theorem dX9_isNearer_49 : decode cX9_isNearer 49 = .ok (.lcmp, 1) := by decide +kernel
theorem dX9_isNearer_50 : decode cX9_isNearer 50 = .ok (.ifCond .ne 14, 3) := by decide +kernel
theorem dX9_isNearer_53 : decode cX9_isNearer 53 = .ok (.lload_n 2, 1) := by decide +kernel
theorem dX9_isNearer_54 : decode cX9_isNearer 54 = .ok (.lload 4, 2) := by decide +kernel
theorem dX9_isNearer_56 : decode cX9_isNearer 56 = .ok (.lcmp, 1) := by decide +kernel
theorem dX9_isNearer_57 : decode cX9_isNearer 57 = .ok (.ifCond .ge 7, 3) := by decide +kernel
theorem dX9_isNearer_60 : decode cX9_isNearer 60 = .ok (.iconst 1, 1) := by decide +kernel
theorem dX9_isNearer_61 : decode cX9_isNearer 61 = .ok (.goto 4, 3) := by decide +kernel
theorem dX9_isNearer_64 : decode cX9_isNearer 64 = .ok (.iconst 0, 1) := by decide +kernel
theorem dX9_isNearer_65 : decode cX9_isNearer 65 = .ok (.ireturn, 1) := by decide +kernel
theorem dX9_isDirect_0 : decode cX9_isDirect 0 = .ok (.aload_n 0, 1) := by decide +kernel
theorem dX9_isDirect_1 : decode cX9_isDirect 1 = .ok (.aload_n 0, 1) := by decide +kernel
theorem dX9_isDirect_2 : decode cX9_isDirect 2 = .ok (.getfield 32, 3) := by decide +kernel
theorem dX9_isDirect_5 : decode cX9_isDirect 5 = .ok (.iload_n 1, 1) := by decide +kernel
theorem dX9_isDirect_6 : decode cX9_isDirect 6 = .ok (.iaload, 1) := by decide +kernel
theorem dX9_isDirect_7 : decode cX9_isDirect 7 = .ok (.aload_n 0, 1) := by decide +kernel
theorem dX9_isDirect_8 : decode cX9_isDirect 8 = .ok (.getfield 60, 3) := by decide +kernel
theorem dX9_isDirect_11 : decode cX9_isDirect 11 = .ok (.iload_n 1, 1) := by decide +kernel
theorem dX9_isDirect_12 : decode cX9_isDirect 12 = .ok (.laload, 1) := by decide +kernel
theorem dX9_isDirect_13 : decode cX9_isDirect 13 = .ok (.aload_n 0, 1) := by decide +kernel
theorem dX9_isDirect_14 : decode cX9_isDirect 14 = .ok (.getfield 57, 3) := by decide +kernel
theorem dX9_isDirect_17 : decode cX9_isDirect 17 = .ok (.aload_n 0, 1) := by decide +kernel
theorem dX9_isDirect_18 : decode cX9_isDirect 18 = .ok (.getfield 35, 3) := by decide +kernel
theorem dX9_isDirect_21 : decode cX9_isDirect 21 = .ok (.iload_n 1, 1) := by decide +kernel
theorem dX9_isDirect_22 : decode cX9_isDirect 22 = .ok (.iaload, 1) := by decide +kernel
theorem dX9_isDirect_23 : decode cX9_isDirect 23 = .ok (.laload, 1) := by decide +kernel
theorem dX9_isDirect_24 : decode cX9_isDirect 24 = .ok (.invokevirtual 147, 3) := by decide +kernel
theorem dX9_isDirect_27 : decode cX9_isDirect 27 = .ok (.ireturn, 1) := by decide +kernel
theorem dX9_hasThunk_0 : decode cX9_hasThunk 0 = .ok (.iconst 0, 1) := by decide +kernel
theorem dX9_hasThunk_1 : decode cX9_hasThunk 1 = .ok (.istore 5, 2) := by decide +kernel
theorem dX9_hasThunk_3 : decode cX9_hasThunk 3 = .ok (.iload_n 3, 1) := by decide +kernel
theorem dX9_hasThunk_4 : decode cX9_hasThunk 4 = .ok (.istore 6, 2) := by decide +kernel
theorem dX9_hasThunk_6 : decode cX9_hasThunk 6 = .ok (.iload 6, 2) := by decide +kernel
theorem dX9_hasThunk_8 : decode cX9_hasThunk 8 = .ok (.iload 4, 2) := by decide +kernel
theorem dX9_hasThunk_10 : decode cX9_hasThunk 10 = .ok (.if_icmp .ge 43, 3) := by decide +kernel
theorem dX9_hasThunk_13 : decode cX9_hasThunk 13 = .ok (.iload 5, 2) := by decide +kernel
theorem dX9_hasThunk_15 : decode cX9_hasThunk 15 = .ok (.ifCond .ne 25, 3) := by decide +kernel
theorem dX9_hasThunk_18 : decode cX9_hasThunk 18 = .ok (.aload_n 0, 1) := by decide +kernel
theorem dX9_hasThunk_19 : decode cX9_hasThunk 19 = .ok (.getfield 84, 3) := by decide +kernel
theorem dX9_hasThunk_22 : decode cX9_hasThunk 22 = .ok (.iload 6, 2) := by decide +kernel
theorem dX9_hasThunk_24 : decode cX9_hasThunk 24 = .ok (.iaload, 1) := by decide +kernel
theorem dX9_hasThunk_25 : decode cX9_hasThunk 25 = .ok (.iload_n 1, 1) := by decide +kernel
theorem dX9_hasThunk_26 : decode cX9_hasThunk 26 = .ok (.if_icmp .ne 18, 3) := by decide +kernel
theorem dX9_hasThunk_29 : decode cX9_hasThunk 29 = .ok (.aload_n 0, 1) := by decide +kernel
theorem dX9_hasThunk_30 : decode cX9_hasThunk 30 = .ok (.getfield 87, 3) := by decide +kernel
theorem dX9_hasThunk_33 : decode cX9_hasThunk 33 = .ok (.iload 6, 2) := by decide +kernel
theorem dX9_hasThunk_35 : decode cX9_hasThunk 35 = .ok (.iaload, 1) := by decide +kernel
theorem dX9_hasThunk_36 : decode cX9_hasThunk 36 = .ok (.iload_n 2, 1) := by decide +kernel
theorem dX9_hasThunk_37 : decode cX9_hasThunk 37 = .ok (.if_icmp .ne 7, 3) := by decide +kernel
theorem dX9_hasThunk_40 : decode cX9_hasThunk 40 = .ok (.iconst 1, 1) := by decide +kernel
theorem dX9_hasThunk_41 : decode cX9_hasThunk 41 = .ok (.goto 4, 3) := by decide +kernel
theorem dX9_hasThunk_44 : decode cX9_hasThunk 44 = .ok (.iconst 0, 1) := by decide +kernel
theorem dX9_hasThunk_45 : decode cX9_hasThunk 45 = .ok (.istore 5, 2) := by decide +kernel
theorem dX9_hasThunk_47 : decode cX9_hasThunk 47 = .ok (.iinc 6 1, 3) := by decide +kernel
theorem dX9_hasThunk_50 : decode cX9_hasThunk 50 = .ok (.goto (-44), 3) := by decide +kernel
theorem dX9_hasThunk_53 : decode cX9_hasThunk 53 = .ok (.iload 5, 2) := by decide +kernel
theorem dX9_hasThunk_55 : decode cX9_hasThunk 55 = .ok (.ireturn, 1) := by decide +kernel
theorem dX9_wants_0 : decode cX9_wants 0 = .ok (.iconst (-1), 1) := by decide +kernel
theorem dX9_wants_1 : decode cX9_wants 1 = .ok (.istore_n 3, 1) := by decide +kernel
theorem dX9_wants_2 : decode cX9_wants 2 = .ok (.aload_n 0, 1) := by decide +kernel
theorem dX9_wants_3 : decode cX9_wants 3 = .ok (.getfield 35, 3) := by decide +kernel
theorem dX9_wants_6 : decode cX9_wants 6 = .ok (.iload_n 1, 1) := by decide +kernel
theorem dX9_wants_7 : decode cX9_wants 7 = .ok (.iaload, 1) := by decide +kernel
theorem dX9_wants_8 : decode cX9_wants 8 = .ok (.istore 4, 2) := by decide +kernel
theorem dX9_wants_10 : decode cX9_wants 10 = .ok (.iconst 0, 1) := by decide +kernel
theorem dX9_wants_11 : decode cX9_wants 11 = .ok (.istore 5, 2) := by decide +kernel
theorem dX9_wants_13 : decode cX9_wants 13 = .ok (.iload 5, 2) := by decide +kernel
theorem dX9_wants_15 : decode cX9_wants 15 = .ok (.aload_n 0, 1) := by decide +kernel
theorem dX9_wants_16 : decode cX9_wants 16 = .ok (.getfield 105, 3) := by decide +kernel
theorem dX9_wants_19 : decode cX9_wants 19 = .ok (.if_icmp .ge 137, 3) := by decide +kernel
theorem dX9_wants_22 : decode cX9_wants 22 = .ok (.aload_n 0, 1) := by decide +kernel
theorem dX9_wants_23 : decode cX9_wants 23 = .ok (.getfield 16, 3) := by decide +kernel
theorem dX9_wants_26 : decode cX9_wants 26 = .ok (.iload 5, 2) := by decide +kernel
theorem dX9_wants_28 : decode cX9_wants 28 = .ok (.baload, 1) := by decide +kernel
theorem dX9_wants_29 : decode cX9_wants 29 = .ok (.ifCond .eq 121, 3) := by decide +kernel
theorem dX9_wants_32 : decode cX9_wants 32 = .ok (.aload_n 0, 1) := by decide +kernel
theorem dX9_wants_33 : decode cX9_wants 33 = .ok (.aload_n 0, 1) := by decide +kernel
theorem dX9_wants_34 : decode cX9_wants 34 = .ok (.getfield 32, 3) := by decide +kernel
theorem dX9_wants_37 : decode cX9_wants 37 = .ok (.iload_n 1, 1) := by decide +kernel
theorem dX9_wants_38 : decode cX9_wants 38 = .ok (.iaload, 1) := by decide +kernel
theorem dX9_wants_39 : decode cX9_wants 39 = .ok (.aload_n 0, 1) := by decide +kernel
theorem dX9_wants_40 : decode cX9_wants 40 = .ok (.getfield 60, 3) := by decide +kernel
theorem dX9_wants_43 : decode cX9_wants 43 = .ok (.iload_n 1, 1) := by decide +kernel
theorem dX9_wants_44 : decode cX9_wants 44 = .ok (.laload, 1) := by decide +kernel
theorem dX9_wants_45 : decode cX9_wants 45 = .ok (.aload_n 0, 1) := by decide +kernel
theorem dX9_wants_46 : decode cX9_wants 46 = .ok (.getfield 54, 3) := by decide +kernel
theorem dX9_wants_49 : decode cX9_wants 49 = .ok (.iload 5, 2) := by decide +kernel
theorem dX9_wants_51 : decode cX9_wants 51 = .ok (.laload, 1) := by decide +kernel
theorem dX9_wants_52 : decode cX9_wants 52 = .ok (.invokevirtual 147, 3) := by decide +kernel
theorem dX9_wants_55 : decode cX9_wants 55 = .ok (.ifCond .eq 95, 3) := by decide +kernel
theorem dX9_wants_58 : decode cX9_wants 58 = .ok (.aload_n 0, 1) := by decide +kernel
theorem dX9_wants_59 : decode cX9_wants 59 = .ok (.aload_n 0, 1) := by decide +kernel
theorem dX9_wants_60 : decode cX9_wants 60 = .ok (.getfield 133, 3) := by decide +kernel
theorem dX9_wants_63 : decode cX9_wants 63 = .ok (.aload_n 0, 1) := by decide +kernel
theorem dX9_wants_64 : decode cX9_wants 64 = .ok (.getfield 54, 3) := by decide +kernel
theorem dX9_wants_67 : decode cX9_wants 67 = .ok (.iload 5, 2) := by decide +kernel
theorem dX9_wants_69 : decode cX9_wants 69 = .ok (.laload, 1) := by decide +kernel
theorem dX9_wants_70 : decode cX9_wants 70 = .ok (.aload_n 0, 1) := by decide +kernel
theorem dX9_wants_71 : decode cX9_wants 71 = .ok (.getfield 57, 3) := by decide +kernel
theorem dX9_wants_74 : decode cX9_wants 74 = .ok (.iload 4, 2) := by decide +kernel
theorem dX9_wants_76 : decode cX9_wants 76 = .ok (.laload, 1) := by decide +kernel
theorem dX9_wants_77 : decode cX9_wants 77 = .ok (.invokevirtual 147, 3) := by decide +kernel
theorem dX9_wants_80 : decode cX9_wants 80 = .ok (.ifCond .eq 70, 3) := by decide +kernel
theorem dX9_wants_83 : decode cX9_wants 83 = .ok (.aload_n 0, 1) := by decide +kernel
theorem dX9_wants_84 : decode cX9_wants 84 = .ok (.iload 5, 2) := by decide +kernel
theorem dX9_wants_86 : decode cX9_wants 86 = .ok (.iload 4, 2) := by decide +kernel
theorem dX9_wants_88 : decode cX9_wants 88 = .ok (.iconst 0, 1) := by decide +kernel
theorem dX9_wants_89 : decode cX9_wants 89 = .ok (.iload_n 2, 1) := by decide +kernel
theorem dX9_wants_90 : decode cX9_wants 90 = .ok (.invokevirtual 155, 3) := by decide +kernel
theorem dX9_wants_93 : decode cX9_wants 93 = .ok (.ifCond .eq 6, 3) := by decide +kernel
theorem dX9_wants_96 : decode cX9_wants 96 = .ok (.goto 54, 3) := by decide +kernel
theorem dX9_wants_99 : decode cX9_wants 99 = .ok (.aload_n 0, 1) := by decide +kernel
theorem dX9_wants_100 : decode cX9_wants 100 = .ok (.iload 5, 2) := by decide +kernel
theorem dX9_wants_102 : decode cX9_wants 102 = .ok (.iload 4, 2) := by decide +kernel
theorem dX9_wants_104 : decode cX9_wants 104 = .ok (.iload_n 2, 1) := by decide +kernel
theorem dX9_wants_105 : decode cX9_wants 105 = .ok (.aload_n 0, 1) := by decide +kernel
theorem dX9_wants_106 : decode cX9_wants 106 = .ok (.getfield 159, 3) := by decide +kernel
theorem dX9_wants_109 : decode cX9_wants 109 = .ok (.invokevirtual 155, 3) := by decide +kernel
theorem dX9_wants_112 : decode cX9_wants 112 = .ok (.ifCond .eq 5, 3) := by decide +kernel
theorem dX9_wants_115 : decode cX9_wants 115 = .ok (.iconst (-1), 1) := by decide +kernel
theorem dX9_wants_116 : decode cX9_wants 116 = .ok (.ireturn, 1) := by decide +kernel
theorem dX9_wants_117 : decode cX9_wants 117 = .ok (.iload_n 3, 1) := by decide +kernel
theorem dX9_wants_118 : decode cX9_wants 118 = .ok (.iconst (-1), 1) := by decide +kernel
theorem dX9_wants_119 : decode cX9_wants 119 = .ok (.if_icmp .eq 28, 3) := by decide +kernel
theorem dX9_wants_122 : decode cX9_wants 122 = .ok (.aload_n 0, 1) := by decide +kernel
theorem dX9_wants_123 : decode cX9_wants 123 = .ok (.getfield 60, 3) := by decide +kernel
theorem dX9_wants_126 : decode cX9_wants 126 = .ok (.iload_n 1, 1) := by decide +kernel
theorem dX9_wants_127 : decode cX9_wants 127 = .ok (.laload, 1) := by decide +kernel
theorem dX9_wants_128 : decode cX9_wants 128 = .ok (.aload_n 0, 1) := by decide +kernel
theorem dX9_wants_129 : decode cX9_wants 129 = .ok (.getfield 54, 3) := by decide +kernel
theorem dX9_wants_132 : decode cX9_wants 132 = .ok (.iload 5, 2) := by decide +kernel
theorem dX9_wants_134 : decode cX9_wants 134 = .ok (.laload, 1) := by decide +kernel
theorem dX9_wants_135 : decode cX9_wants 135 = .ok (.aload_n 0, 1) := by decide +kernel
theorem dX9_wants_136 : decode cX9_wants 136 = .ok (.getfield 54, 3) := by decide +kernel
theorem dX9_wants_139 : decode cX9_wants 139 = .ok (.iload_n 3, 1) := by decide +kernel
theorem dX9_wants_140 : decode cX9_wants 140 = .ok (.laload, 1) := by decide +kernel
theorem dX9_wants_141 : decode cX9_wants 141 = .ok (.invokestatic 151, 3) := by decide +kernel
theorem dX9_wants_144 : decode cX9_wants 144 = .ok (.ifCond .eq 6, 3) := by decide +kernel
theorem dX9_wants_147 : decode cX9_wants 147 = .ok (.iload 5, 2) := by decide +kernel
theorem dX9_wants_149 : decode cX9_wants 149 = .ok (.istore_n 3, 1) := by decide +kernel
theorem dX9_wants_150 : decode cX9_wants 150 = .ok (.iinc 5 1, 3) := by decide +kernel
theorem dX9_wants_153 : decode cX9_wants 153 = .ok (.goto (-140), 3) := by decide +kernel
theorem dX9_wants_156 : decode cX9_wants 156 = .ok (.iload_n 3, 1) := by decide +kernel
theorem dX9_wants_157 : decode cX9_wants 157 = .ok (.ireturn, 1) := by decide +kernel
theorem dX9_lay_0 : decode cX9_lay 0 = .ok (.iconst 0, 1) := by decide +kernel
theorem dX9_lay_1 : decode cX9_lay 1 = .ok (.istore_n 1, 1) := by decide +kernel
theorem dX9_lay_2 : decode cX9_lay 2 = .ok (.iconst 0, 1) := by decide +kernel
theorem dX9_lay_3 : decode cX9_lay 3 = .ok (.istore_n 2, 1) := by decide +kernel
theorem dX9_lay_4 : decode cX9_lay 4 = .ok (.iconst 1, 1) := by decide +kernel
theorem dX9_lay_5 : decode cX9_lay 5 = .ok (.istore_n 3, 1) := by decide +kernel
theorem dX9_lay_6 : decode cX9_lay 6 = .ok (.iload_n 3, 1) := by decide +kernel
theorem dX9_lay_7 : decode cX9_lay 7 = .ok (.ifCond .eq 226, 3) := by decide +kernel
theorem dX9_lay_10 : decode cX9_lay 10 = .ok (.iinc 2 1, 3) := by decide +kernel
theorem dX9_lay_13 : decode cX9_lay 13 = .ok (.aload_n 0, 1) := by decide +kernel
theorem dX9_lay_14 : decode cX9_lay 14 = .ok (.iload_n 1, 1) := by decide +kernel
theorem dX9_lay_15 : decode cX9_lay 15 = .ok (.invokevirtual 162, 3) := by decide +kernel
theorem dX9_lay_18 : decode cX9_lay 18 = .ok (.aload_n 0, 1) := by decide +kernel
theorem dX9_lay_19 : decode cX9_lay 19 = .ok (.iload_n 1, 1) := by decide +kernel
theorem dX9_lay_20 : decode cX9_lay 20 = .ok (.putfield 159, 3) := by decide +kernel
theorem dX9_lay_23 : decode cX9_lay 23 = .ok (.iconst 0, 1) := by decide +kernel
theorem dX9_lay_24 : decode cX9_lay 24 = .ok (.istore 4, 2) := by decide +kernel
theorem dX9_lay_26 : decode cX9_lay 26 = .ok (.iload 4, 2) := by decide +kernel
theorem dX9_lay_28 : decode cX9_lay 28 = .ok (.aload_n 0, 1) := by decide +kernel
theorem dX9_lay_29 : decode cX9_lay 29 = .ok (.getfield 124, 3) := by decide +kernel
theorem dX9_lay_32 : decode cX9_lay 32 = .ok (.if_icmp .ge 179, 3) := by decide +kernel
theorem dX9_lay_35 : decode cX9_lay 35 = .ok (.aload_n 0, 1) := by decide +kernel
theorem dX9_lay_36 : decode cX9_lay 36 = .ok (.getfield 127, 3) := by decide +kernel
theorem dX9_lay_39 : decode cX9_lay 39 = .ok (.ifCond .eq 166, 3) := by decide +kernel
theorem dX9_lay_42 : decode cX9_lay 42 = .ok (.aload_n 0, 1) := by decide +kernel
theorem dX9_lay_43 : decode cX9_lay 43 = .ok (.iload 4, 2) := by decide +kernel
theorem dX9_lay_45 : decode cX9_lay 45 = .ok (.invokevirtual 166, 3) := by decide +kernel
theorem dX9_lay_48 : decode cX9_lay 48 = .ok (.ifCond .ne 157, 3) := by decide +kernel
theorem dX9_lay_51 : decode cX9_lay 51 = .ok (.aload_n 0, 1) := by decide +kernel
theorem dX9_lay_52 : decode cX9_lay 52 = .ok (.iload 4, 2) := by decide +kernel
theorem dX9_lay_54 : decode cX9_lay 54 = .ok (.iload_n 1, 1) := by decide +kernel
theorem dX9_lay_55 : decode cX9_lay 55 = .ok (.invokevirtual 170, 3) := by decide +kernel
theorem dX9_lay_58 : decode cX9_lay 58 = .ok (.iconst (-1), 1) := by decide +kernel
theorem dX9_lay_59 : decode cX9_lay 59 = .ok (.if_icmp .eq 6, 3) := by decide +kernel
theorem dX9_lay_62 : decode cX9_lay 62 = .ok (.goto 143, 3) := by decide +kernel
theorem dX9_lay_65 : decode cX9_lay 65 = .ok (.aload_n 0, 1) := by decide +kernel
theorem dX9_lay_66 : decode cX9_lay 66 = .ok (.iload 4, 2) := by decide +kernel
theorem dX9_lay_68 : decode cX9_lay 68 = .ok (.iload_n 1, 1) := by decide +kernel
theorem dX9_lay_69 : decode cX9_lay 69 = .ok (.invokevirtual 174, 3) := by decide +kernel
theorem dX9_lay_72 : decode cX9_lay 72 = .ok (.istore 5, 2) := by decide +kernel
theorem dX9_lay_74 : decode cX9_lay 74 = .ok (.iload 5, 2) := by decide +kernel
theorem dX9_lay_76 : decode cX9_lay 76 = .ok (.iconst (-1), 1) := by decide +kernel
theorem dX9_lay_77 : decode cX9_lay 77 = .ok (.if_icmp .ne 6, 3) := by decide +kernel
theorem dX9_lay_80 : decode cX9_lay 80 = .ok (.goto 125, 3) := by decide +kernel
theorem dX9_lay_83 : decode cX9_lay 83 = .ok (.aload_n 0, 1) := by decide +kernel
theorem dX9_lay_84 : decode cX9_lay 84 = .ok (.getfield 84, 3) := by decide +kernel
theorem dX9_lay_87 : decode cX9_lay 87 = .ok (.aload_n 0, 1) := by decide +kernel
theorem dX9_lay_88 : decode cX9_lay 88 = .ok (.getfield 159, 3) := by decide +kernel
theorem dX9_lay_91 : decode cX9_lay 91 = .ok (.iload 5, 2) := by decide +kernel
theorem dX9_lay_93 : decode cX9_lay 93 = .ok (.iastore, 1) := by decide +kernel
theorem dX9_lay_94 : decode cX9_lay 94 = .ok (.aload_n 0, 1) := by decide +kernel
theorem dX9_lay_95 : decode cX9_lay 95 = .ok (.getfield 87, 3) := by decide +kernel
theorem dX9_lay_98 : decode cX9_lay 98 = .ok (.aload_n 0, 1) := by decide +kernel
theorem dX9_lay_99 : decode cX9_lay 99 = .ok (.getfield 159, 3) := by decide +kernel
theorem dX9_lay_102 : decode cX9_lay 102 = .ok (.aload_n 0, 1) := by decide +kernel
theorem dX9_lay_103 : decode cX9_lay 103 = .ok (.getfield 35, 3) := by decide +kernel
theorem dX9_lay_106 : decode cX9_lay 106 = .ok (.iload 4, 2) := by decide +kernel
theorem dX9_lay_108 : decode cX9_lay 108 = .ok (.iaload, 1) := by decide +kernel
theorem dX9_lay_109 : decode cX9_lay 109 = .ok (.iastore, 1) := by decide +kernel
theorem dX9_lay_110 : decode cX9_lay 110 = .ok (.aload_n 0, 1) := by decide +kernel
theorem dX9_lay_111 : decode cX9_lay 111 = .ok (.getfield 90, 3) := by decide +kernel
theorem dX9_lay_114 : decode cX9_lay 114 = .ok (.aload_n 0, 1) := by decide +kernel
theorem dX9_lay_115 : decode cX9_lay 115 = .ok (.getfield 159, 3) := by decide +kernel
theorem dX9_lay_118 : decode cX9_lay 118 = .ok (.iload_n 2, 1) := by decide +kernel
theorem dX9_lay_119 : decode cX9_lay 119 = .ok (.iastore, 1) := by decide +kernel
theorem dX9_lay_120 : decode cX9_lay 120 = .ok (.aload_n 0, 1) := by decide +kernel
theorem dX9_lay_121 : decode cX9_lay 121 = .ok (.getfield 93, 3) := by decide +kernel
theorem dX9_lay_124 : decode cX9_lay 124 = .ok (.aload_n 0, 1) := by decide +kernel
theorem dX9_lay_125 : decode cX9_lay 125 = .ok (.getfield 159, 3) := by decide +kernel
theorem dX9_lay_128 : decode cX9_lay 128 = .ok (.iload 4, 2) := by decide +kernel
theorem dX9_lay_130 : decode cX9_lay 130 = .ok (.iastore, 1) := by decide +kernel
theorem dX9_lay_131 : decode cX9_lay 131 = .ok (.aload_n 0, 1) := by decide +kernel
theorem dX9_lay_132 : decode cX9_lay 132 = .ok (.getfield 96, 3) := by decide +kernel
theorem dX9_lay_135 : decode cX9_lay 135 = .ok (.aload_n 0, 1) := by decide +kernel
theorem dX9_lay_136 : decode cX9_lay 136 = .ok (.getfield 159, 3) := by decide +kernel
theorem dX9_lay_139 : decode cX9_lay 139 = .ok (.iconst 0, 1) := by decide +kernel
theorem dX9_lay_140 : decode cX9_lay 140 = .ok (.iastore, 1) := by decide +kernel
theorem dX9_lay_141 : decode cX9_lay 141 = .ok (.iconst 0, 1) := by decide +kernel
theorem dX9_lay_142 : decode cX9_lay 142 = .ok (.istore 6, 2) := by decide +kernel
theorem dX9_lay_144 : decode cX9_lay 144 = .ok (.iconst 0, 1) := by decide +kernel
theorem dX9_lay_145 : decode cX9_lay 145 = .ok (.istore 7, 2) := by decide +kernel
theorem dX9_lay_147 : decode cX9_lay 147 = .ok (.iload 7, 2) := by decide +kernel
theorem dX9_lay_149 : decode cX9_lay 149 = .ok (.aload_n 0, 1) := by decide +kernel
theorem dX9_lay_150 : decode cX9_lay 150 = .ok (.getfield 159, 3) := by decide +kernel
theorem dX9_lay_153 : decode cX9_lay 153 = .ok (.if_icmp .ge 31, 3) := by decide +kernel
theorem dX9_lay_156 : decode cX9_lay 156 = .ok (.iload 6, 2) := by decide +kernel
theorem dX9_lay_158 : decode cX9_lay 158 = .ok (.aload_n 0, 1) := by decide +kernel
theorem dX9_lay_159 : decode cX9_lay 159 = .ok (.getfield 84, 3) := by decide +kernel
theorem dX9_lay_162 : decode cX9_lay 162 = .ok (.iload 7, 2) := by decide +kernel
theorem dX9_lay_164 : decode cX9_lay 164 = .ok (.iaload, 1) := by decide +kernel
theorem dX9_lay_165 : decode cX9_lay 165 = .ok (.iload 5, 2) := by decide +kernel
theorem dX9_lay_167 : decode cX9_lay 167 = .ok (.if_icmp .ne 7, 3) := by decide +kernel
theorem dX9_lay_170 : decode cX9_lay 170 = .ok (.iconst 1, 1) := by decide +kernel
theorem dX9_lay_171 : decode cX9_lay 171 = .ok (.goto 4, 3) := by decide +kernel
theorem dX9_lay_174 : decode cX9_lay 174 = .ok (.iconst 0, 1) := by decide +kernel
theorem dX9_lay_175 : decode cX9_lay 175 = .ok (.iadd, 1) := by decide +kernel
theorem dX9_lay_176 : decode cX9_lay 176 = .ok (.istore 6, 2) := by decide +kernel
theorem dX9_lay_178 : decode cX9_lay 178 = .ok (.iinc 7 1, 3) := by decide +kernel
theorem dX9_lay_181 : decode cX9_lay 181 = .ok (.goto (-34), 3) := by decide +kernel
theorem dX9_lay_184 : decode cX9_lay 184 = .ok (.aload_n 0, 1) := by decide +kernel
theorem dX9_lay_185 : decode cX9_lay 185 = .ok (.getfield 99, 3) := by decide +kernel
theorem dX9_lay_188 : decode cX9_lay 188 = .ok (.aload_n 0, 1) := by decide +kernel
theorem dX9_lay_189 : decode cX9_lay 189 = .ok (.getfield 159, 3) := by decide +kernel
theorem dX9_lay_192 : decode cX9_lay 192 = .ok (.iload 6, 2) := by decide +kernel
theorem dX9_lay_194 : decode cX9_lay 194 = .ok (.iastore, 1) := by decide +kernel
theorem dX9_lay_195 : decode cX9_lay 195 = .ok (.aload_n 0, 1) := by decide +kernel
theorem dX9_lay_196 : decode cX9_lay 196 = .ok (.dup, 1) := by decide +kernel
theorem dX9_lay_197 : decode cX9_lay 197 = .ok (.getfield 159, 3) := by decide +kernel
theorem dX9_lay_200 : decode cX9_lay 200 = .ok (.iconst 1, 1) := by decide +kernel
theorem dX9_lay_201 : decode cX9_lay 201 = .ok (.iadd, 1) := by decide +kernel
theorem dX9_lay_202 : decode cX9_lay 202 = .ok (.putfield 159, 3) := by decide +kernel
theorem dX9_lay_205 : decode cX9_lay 205 = .ok (.iinc 4 1, 3) := by decide +kernel
theorem dX9_lay_208 : decode cX9_lay 208 = .ok (.goto (-182), 3) := by decide +kernel
theorem dX9_lay_211 : decode cX9_lay 211 = .ok (.aload_n 0, 1) := by decide +kernel
theorem dX9_lay_212 : decode cX9_lay 212 = .ok (.getfield 159, 3) := by decide +kernel
theorem dX9_lay_215 : decode cX9_lay 215 = .ok (.iload_n 1, 1) := by decide +kernel
theorem dX9_lay_216 : decode cX9_lay 216 = .ok (.if_icmp .le 7, 3) := by decide +kernel
theorem dX9_lay_219 : decode cX9_lay 219 = .ok (.iconst 1, 1) := by decide +kernel
theorem dX9_lay_220 : decode cX9_lay 220 = .ok (.goto 4, 3) := by decide +kernel
theorem dX9_lay_223 : decode cX9_lay 223 = .ok (.iconst 0, 1) := by decide +kernel
theorem dX9_lay_224 : decode cX9_lay 224 = .ok (.istore_n 3, 1) := by decide +kernel
theorem dX9_lay_225 : decode cX9_lay 225 = .ok (.aload_n 0, 1) := by decide +kernel
theorem dX9_lay_226 : decode cX9_lay 226 = .ok (.getfield 159, 3) := by decide +kernel
theorem dX9_lay_229 : decode cX9_lay 229 = .ok (.istore_n 1, 1) := by decide +kernel
theorem dX9_lay_230 : decode cX9_lay 230 = .ok (.goto (-224), 3) := by decide +kernel
theorem dX9_lay_233 : decode cX9_lay 233 = .ok (.aload_n 0, 1) := by decide +kernel
theorem dX9_lay_234 : decode cX9_lay 234 = .ok (.iload_n 2, 1) := by decide +kernel
theorem dX9_lay_235 : decode cX9_lay 235 = .ok (.putfield 177, 3) := by decide +kernel
theorem dX9_lay_238 : decode cX9_lay 238 = .ok (.aload_n 0, 1) := by decide +kernel
theorem dX9_lay_239 : decode cX9_lay 239 = .ok (.iload_n 1, 1) := by decide +kernel
theorem dX9_lay_240 : decode cX9_lay 240 = .ok (.putfield 180, 3) := by decide +kernel
theorem dX9_lay_243 : decode cX9_lay 243 = .ok (.aload_n 0, 1) := by decide +kernel
theorem dX9_lay_244 : decode cX9_lay 244 = .ok (.invokevirtual 183, 3) := by decide +kernel
theorem dX9_lay_247 : decode cX9_lay 247 = .ok (.ireturn, 1) := by decide +kernel
theorem dX9_keeps_0 : decode cX9_keeps 0 = .ok (.aload_n 0, 1) := by decide +kernel
theorem dX9_keeps_1 : decode cX9_keeps 1 = .ok (.iconst 1, 1) := by decide +kernel
theorem dX9_keeps_2 : decode cX9_keeps 2 = .ok (.putfield 187, 3) := by decide +kernel
theorem dX9_keeps_5 : decode cX9_keeps 5 = .ok (.aload_n 0, 1) := by decide +kernel
theorem dX9_keeps_6 : decode cX9_keeps 6 = .ok (.iconst 0, 1) := by decide +kernel
theorem dX9_keeps_7 : decode cX9_keeps 7 = .ok (.putfield 117, 3) := by decide +kernel
theorem dX9_keeps_10 : decode cX9_keeps 10 = .ok (.aload_n 0, 1) := by decide +kernel
theorem dX9_keeps_11 : decode cX9_keeps 11 = .ok (.aload_n 0, 1) := by decide +kernel
theorem dX9_keeps_12 : decode cX9_keeps 12 = .ok (.getfield 105, 3) := by decide +kernel
theorem dX9_keeps_15 : decode cX9_keeps 15 = .ok (.putfield 190, 3) := by decide +kernel
theorem dX9_keeps_18 : decode cX9_keeps 18 = .ok (.aload_n 0, 1) := by decide +kernel
theorem dX9_keeps_19 : decode cX9_keeps 19 = .ok (.aload_n 0, 1) := by decide +kernel
theorem dX9_keeps_20 : decode cX9_keeps 20 = .ok (.getfield 121, 3) := by decide +kernel
theorem dX9_keeps_23 : decode cX9_keeps 23 = .ok (.putfield 193, 3) := by decide +kernel
theorem dX9_keeps_26 : decode cX9_keeps 26 = .ok (.aload_n 0, 1) := by decide +kernel
theorem dX9_keeps_27 : decode cX9_keeps 27 = .ok (.aload_n 0, 1) := by decide +kernel
theorem dX9_keeps_28 : decode cX9_keeps 28 = .ok (.getfield 124, 3) := by decide +kernel
theorem dX9_keeps_31 : decode cX9_keeps 31 = .ok (.putfield 196, 3) := by decide +kernel
theorem dX9_keeps_34 : decode cX9_keeps 34 = .ok (.aload_n 0, 1) := by decide +kernel
theorem dX9_keeps_35 : decode cX9_keeps 35 = .ok (.aload_n 0, 1) := by decide +kernel
theorem dX9_keeps_36 : decode cX9_keeps 36 = .ok (.getfield 136, 3) := by decide +kernel
theorem dX9_keeps_39 : decode cX9_keeps 39 = .ok (.i2l, 1) := by decide +kernel
theorem dX9_keeps_40 : decode cX9_keeps 40 = .ok (.putfield 199, 3) := by decide +kernel
theorem dX9_keeps_43 : decode cX9_keeps 43 = .ok (.aload_n 0, 1) := by decide +kernel
theorem dX9_keeps_44 : decode cX9_keeps 44 = .ok (.aload_n 0, 1) := by decide +kernel
theorem dX9_keeps_45 : decode cX9_keeps 45 = .ok (.getfield 127, 3) := by decide +kernel
theorem dX9_keeps_48 : decode cX9_keeps 48 = .ok (.putfield 202, 3) := by decide +kernel
theorem dX9_keeps_51 : decode cX9_keeps 51 = .ok (.aload_n 0, 1) := by decide +kernel
theorem dX9_keeps_52 : decode cX9_keeps 52 = .ok (.aload_n 0, 1) := by decide +kernel
theorem dX9_keeps_53 : decode cX9_keeps 53 = .ok (.getfield 133, 3) := by decide +kernel
theorem dX9_keeps_56 : decode cX9_keeps 56 = .ok (.putfield 205, 3) := by decide +kernel
theorem dX9_keeps_59 : decode cX9_keeps 59 = .ok (.iconst 0, 1) := by decide +kernel
theorem dX9_keeps_60 : decode cX9_keeps 60 = .ok (.istore_n 1, 1) := by decide +kernel
theorem dX9_keeps_61 : decode cX9_keeps 61 = .ok (.iload_n 1, 1) := by decide +kernel
theorem dX9_keeps_62 : decode cX9_keeps 62 = .ok (.aload_n 0, 1) := by decide +kernel
theorem dX9_keeps_63 : decode cX9_keeps 63 = .ok (.getfield 105, 3) := by decide +kernel
theorem dX9_keeps_66 : decode cX9_keeps 66 = .ok (.if_icmp .ge 21, 3) := by decide +kernel
theorem dX9_keeps_69 : decode cX9_keeps 69 = .ok (.aload_n 0, 1) := by decide +kernel
theorem dX9_keeps_70 : decode cX9_keeps 70 = .ok (.getfield 51, 3) := by decide +kernel
theorem dX9_keeps_73 : decode cX9_keeps 73 = .ok (.iload_n 1, 1) := by decide +kernel
theorem dX9_keeps_74 : decode cX9_keeps 74 = .ok (.aload_n 0, 1) := by decide +kernel
theorem dX9_keeps_75 : decode cX9_keeps 75 = .ok (.getfield 16, 3) := by decide +kernel
theorem dX9_keeps_78 : decode cX9_keeps 78 = .ok (.iload_n 1, 1) := by decide +kernel
theorem dX9_keeps_79 : decode cX9_keeps 79 = .ok (.baload, 1) := by decide +kernel
theorem dX9_keeps_80 : decode cX9_keeps 80 = .ok (.bastore, 1) := by decide +kernel
theorem dX9_keeps_81 : decode cX9_keeps 81 = .ok (.iinc 1 1, 3) := by decide +kernel
theorem dX9_keeps_84 : decode cX9_keeps 84 = .ok (.goto (-23), 3) := by decide +kernel
theorem dX9_keeps_87 : decode cX9_keeps 87 = .ok (.iconst 0, 1) := by decide +kernel
theorem dX9_keeps_88 : decode cX9_keeps 88 = .ok (.istore_n 1, 1) := by decide +kernel
theorem dX9_keeps_89 : decode cX9_keeps 89 = .ok (.iload_n 1, 1) := by decide +kernel
theorem dX9_keeps_90 : decode cX9_keeps 90 = .ok (.bipush 8, 2) := by decide +kernel
theorem dX9_keeps_92 : decode cX9_keeps 92 = .ok (.if_icmp .ge 33, 3) := by decide +kernel
theorem dX9_keeps_95 : decode cX9_keeps 95 = .ok (.aload_n 0, 1) := by decide +kernel
theorem dX9_keeps_96 : decode cX9_keeps 96 = .ok (.getfield 75, 3) := by decide +kernel
theorem dX9_keeps_99 : decode cX9_keeps 99 = .ok (.iload_n 1, 1) := by decide +kernel
theorem dX9_keeps_100 : decode cX9_keeps 100 = .ok (.aload_n 0, 1) := by decide +kernel
theorem dX9_keeps_101 : decode cX9_keeps 101 = .ok (.getfield 38, 3) := by decide +kernel
theorem dX9_keeps_104 : decode cX9_keeps 104 = .ok (.iload_n 1, 1) := by decide +kernel
theorem dX9_keeps_105 : decode cX9_keeps 105 = .ok (.iaload, 1) := by decide +kernel
theorem dX9_keeps_106 : decode cX9_keeps 106 = .ok (.iastore, 1) := by decide +kernel
theorem dX9_keeps_107 : decode cX9_keeps 107 = .ok (.aload_n 0, 1) := by decide +kernel
theorem dX9_keeps_108 : decode cX9_keeps 108 = .ok (.getfield 78, 3) := by decide +kernel
theorem dX9_keeps_111 : decode cX9_keeps 111 = .ok (.iload_n 1, 1) := by decide +kernel
theorem dX9_keeps_112 : decode cX9_keeps 112 = .ok (.aload_n 0, 1) := by decide +kernel
theorem dX9_keeps_113 : decode cX9_keeps 113 = .ok (.getfield 41, 3) := by decide +kernel
theorem dX9_keeps_116 : decode cX9_keeps 116 = .ok (.iload_n 1, 1) := by decide +kernel
theorem dX9_keeps_117 : decode cX9_keeps 117 = .ok (.iaload, 1) := by decide +kernel
theorem dX9_keeps_118 : decode cX9_keeps 118 = .ok (.iastore, 1) := by decide +kernel
theorem dX9_keeps_119 : decode cX9_keeps 119 = .ok (.iinc 1 1, 3) := by decide +kernel
theorem dX9_keeps_122 : decode cX9_keeps 122 = .ok (.goto (-33), 3) := by decide +kernel
theorem dX9_keeps_125 : decode cX9_keeps 125 = .ok (.iconst 0, 1) := by decide +kernel
theorem dX9_keeps_126 : decode cX9_keeps 126 = .ok (.istore_n 1, 1) := by decide +kernel
theorem dX9_keeps_127 : decode cX9_keeps 127 = .ok (.iconst 0, 1) := by decide +kernel
theorem dX9_keeps_128 : decode cX9_keeps 128 = .ok (.istore_n 2, 1) := by decide +kernel
theorem dX9_keeps_129 : decode cX9_keeps 129 = .ok (.iload_n 2, 1) := by decide +kernel
theorem dX9_keeps_130 : decode cX9_keeps 130 = .ok (.aload_n 0, 1) := by decide +kernel
theorem dX9_keeps_131 : decode cX9_keeps 131 = .ok (.getfield 124, 3) := by decide +kernel
theorem dX9_keeps_134 : decode cX9_keeps 134 = .ok (.if_icmp .ge 136, 3) := by decide +kernel
theorem dX9_keeps_137 : decode cX9_keeps 137 = .ok (.aload_n 0, 1) := by decide +kernel
theorem dX9_keeps_138 : decode cX9_keeps 138 = .ok (.getfield 63, 3) := by decide +kernel
theorem dX9_keeps_141 : decode cX9_keeps 141 = .ok (.iload_n 2, 1) := by decide +kernel
theorem dX9_keeps_142 : decode cX9_keeps 142 = .ok (.aload_n 0, 1) := by decide +kernel
theorem dX9_keeps_143 : decode cX9_keeps 143 = .ok (.getfield 32, 3) := by decide +kernel
theorem dX9_keeps_146 : decode cX9_keeps 146 = .ok (.iload_n 2, 1) := by decide +kernel
theorem dX9_keeps_147 : decode cX9_keeps 147 = .ok (.iaload, 1) := by decide +kernel
theorem dX9_keeps_148 : decode cX9_keeps 148 = .ok (.iastore, 1) := by decide +kernel
theorem dX9_keeps_149 : decode cX9_keeps 149 = .ok (.aload_n 0, 1) := by decide +kernel
theorem dX9_keeps_150 : decode cX9_keeps 150 = .ok (.getfield 66, 3) := by decide +kernel
theorem dX9_keeps_153 : decode cX9_keeps 153 = .ok (.iload_n 2, 1) := by decide +kernel
theorem dX9_keeps_154 : decode cX9_keeps 154 = .ok (.aload_n 0, 1) := by decide +kernel
theorem dX9_keeps_155 : decode cX9_keeps 155 = .ok (.getfield 35, 3) := by decide +kernel
theorem dX9_keeps_158 : decode cX9_keeps 158 = .ok (.iload_n 2, 1) := by decide +kernel
theorem dX9_keeps_159 : decode cX9_keeps 159 = .ok (.iaload, 1) := by decide +kernel
theorem dX9_keeps_160 : decode cX9_keeps 160 = .ok (.iastore, 1) := by decide +kernel
theorem dX9_keeps_161 : decode cX9_keeps 161 = .ok (.aload_n 0, 1) := by decide +kernel
theorem dX9_keeps_162 : decode cX9_keeps 162 = .ok (.getfield 72, 3) := by decide +kernel
theorem dX9_keeps_165 : decode cX9_keeps 165 = .ok (.iload_n 2, 1) := by decide +kernel
theorem dX9_keeps_166 : decode cX9_keeps 166 = .ok (.aload_n 0, 1) := by decide +kernel
theorem dX9_keeps_167 : decode cX9_keeps 167 = .ok (.iload_n 2, 1) := by decide +kernel
theorem dX9_keeps_168 : decode cX9_keeps 168 = .ok (.invokevirtual 166, 3) := by decide +kernel
theorem dX9_keeps_171 : decode cX9_keeps 171 = .ok (.ifCond .eq 7, 3) := by decide +kernel
theorem dX9_keeps_174 : decode cX9_keeps 174 = .ok (.iconst (-1), 1) := by decide +kernel
theorem dX9_keeps_175 : decode cX9_keeps 175 = .ok (.goto 12, 3) := by decide +kernel
theorem dX9_keeps_178 : decode cX9_keeps 178 = .ok (.aload_n 0, 1) := by decide +kernel
theorem dX9_keeps_179 : decode cX9_keeps 179 = .ok (.iload_n 2, 1) := by decide +kernel
theorem dX9_keeps_180 : decode cX9_keeps 180 = .ok (.aload_n 0, 1) := by decide +kernel
theorem dX9_keeps_181 : decode cX9_keeps 181 = .ok (.getfield 180, 3) := by decide +kernel
theorem dX9_keeps_184 : decode cX9_keeps 184 = .ok (.invokevirtual 170, 3) := by decide +kernel
theorem dX9_keeps_187 : decode cX9_keeps 187 = .ok (.iastore, 1) := by decide +kernel
theorem dX9_keeps_188 : decode cX9_keeps 188 = .ok (.aload_n 0, 1) := by decide +kernel
theorem dX9_keeps_189 : decode cX9_keeps 189 = .ok (.getfield 69, 3) := by decide +kernel
theorem dX9_keeps_192 : decode cX9_keeps 192 = .ok (.iload_n 2, 1) := by decide +kernel
theorem dX9_keeps_193 : decode cX9_keeps 193 = .ok (.aload_n 0, 1) := by decide +kernel
theorem dX9_keeps_194 : decode cX9_keeps 194 = .ok (.iload_n 2, 1) := by decide +kernel
theorem dX9_keeps_195 : decode cX9_keeps 195 = .ok (.invokevirtual 166, 3) := by decide +kernel
theorem dX9_keeps_198 : decode cX9_keeps 198 = .ok (.ifCond .eq 7, 3) := by decide +kernel
theorem dX9_keeps_201 : decode cX9_keeps 201 = .ok (.iconst 0, 1) := by decide +kernel
theorem dX9_keeps_202 : decode cX9_keeps 202 = .ok (.goto 18, 3) := by decide +kernel
theorem dX9_keeps_205 : decode cX9_keeps 205 = .ok (.aload_n 0, 1) := by decide +kernel
theorem dX9_keeps_206 : decode cX9_keeps 206 = .ok (.getfield 72, 3) := by decide +kernel
theorem dX9_keeps_209 : decode cX9_keeps 209 = .ok (.iload_n 2, 1) := by decide +kernel
theorem dX9_keeps_210 : decode cX9_keeps 210 = .ok (.iaload, 1) := by decide +kernel
theorem dX9_keeps_211 : decode cX9_keeps 211 = .ok (.iconst (-1), 1) := by decide +kernel
theorem dX9_keeps_212 : decode cX9_keeps 212 = .ok (.if_icmp .ne 7, 3) := by decide +kernel
theorem dX9_keeps_215 : decode cX9_keeps 215 = .ok (.iconst 2, 1) := by decide +kernel
theorem dX9_keeps_216 : decode cX9_keeps 216 = .ok (.goto 4, 3) := by decide +kernel
theorem dX9_keeps_219 : decode cX9_keeps 219 = .ok (.iconst 1, 1) := by decide +kernel
theorem dX9_keeps_220 : decode cX9_keeps 220 = .ok (.iastore, 1) := by decide +kernel
theorem dX9_keeps_221 : decode cX9_keeps 221 = .ok (.aload_n 0, 1) := by decide +kernel
theorem dX9_keeps_222 : decode cX9_keeps 222 = .ok (.getfield 72, 3) := by decide +kernel
theorem dX9_keeps_225 : decode cX9_keeps 225 = .ok (.iload_n 2, 1) := by decide +kernel
theorem dX9_keeps_226 : decode cX9_keeps 226 = .ok (.iaload, 1) := by decide +kernel
theorem dX9_keeps_227 : decode cX9_keeps 227 = .ok (.iconst (-1), 1) := by decide +kernel
theorem dX9_keeps_228 : decode cX9_keeps 228 = .ok (.if_icmp .eq 18, 3) := by decide +kernel
theorem dX9_keeps_231 : decode cX9_keeps 231 = .ok (.aload_n 0, 1) := by decide +kernel
theorem dX9_keeps_232 : decode cX9_keeps 232 = .ok (.getfield 96, 3) := by decide +kernel
theorem dX9_keeps_235 : decode cX9_keeps 235 = .ok (.aload_n 0, 1) := by decide +kernel
theorem dX9_keeps_236 : decode cX9_keeps 236 = .ok (.getfield 72, 3) := by decide +kernel
theorem dX9_keeps_239 : decode cX9_keeps 239 = .ok (.iload_n 2, 1) := by decide +kernel
theorem dX9_keeps_240 : decode cX9_keeps 240 = .ok (.iaload, 1) := by decide +kernel
theorem dX9_keeps_241 : decode cX9_keeps 241 = .ok (.dup2, 1) := by decide +kernel
theorem dX9_keeps_242 : decode cX9_keeps 242 = .ok (.iaload, 1) := by decide +kernel
theorem dX9_keeps_243 : decode cX9_keeps 243 = .ok (.iconst 1, 1) := by decide +kernel
theorem dX9_keeps_244 : decode cX9_keeps 244 = .ok (.iadd, 1) := by decide +kernel
theorem dX9_keeps_245 : decode cX9_keeps 245 = .ok (.iastore, 1) := by decide +kernel
theorem dX9_keeps_246 : decode cX9_keeps 246 = .ok (.iload_n 1, 1) := by decide +kernel
theorem dX9_keeps_247 : decode cX9_keeps 247 = .ok (.aload_n 0, 1) := by decide +kernel
theorem dX9_keeps_248 : decode cX9_keeps 248 = .ok (.getfield 69, 3) := by decide +kernel
theorem dX9_keeps_251 : decode cX9_keeps 251 = .ok (.iload_n 2, 1) := by decide +kernel
theorem dX9_keeps_252 : decode cX9_keeps 252 = .ok (.iaload, 1) := by decide +kernel
theorem dX9_keeps_253 : decode cX9_keeps 253 = .ok (.iconst 2, 1) := by decide +kernel
theorem dX9_keeps_254 : decode cX9_keeps 254 = .ok (.if_icmp .ne 7, 3) := by decide +kernel
theorem dX9_keeps_257 : decode cX9_keeps 257 = .ok (.iconst 1, 1) := by decide +kernel
theorem dX9_keeps_258 : decode cX9_keeps 258 = .ok (.goto 4, 3) := by decide +kernel
theorem dX9_keeps_261 : decode cX9_keeps 261 = .ok (.iconst 0, 1) := by decide +kernel
theorem dX9_keeps_262 : decode cX9_keeps 262 = .ok (.iadd, 1) := by decide +kernel
theorem dX9_keeps_263 : decode cX9_keeps 263 = .ok (.istore_n 1, 1) := by decide +kernel
theorem dX9_keeps_264 : decode cX9_keeps 264 = .ok (.iinc 2 1, 3) := by decide +kernel
theorem dX9_keeps_267 : decode cX9_keeps 267 = .ok (.goto (-138), 3) := by decide +kernel
theorem dX9_keeps_270 : decode cX9_keeps 270 = .ok (.iload_n 1, 1) := by decide +kernel
theorem dX9_keeps_271 : decode cX9_keeps 271 = .ok (.ireturn, 1) := by decide +kernel
theorem dX9_ways_0 : decode cX9_ways 0 = .ok (.iconst 0, 1) := by decide +kernel
theorem dX9_ways_1 : decode cX9_ways 1 = .ok (.istore_n 2, 1) := by decide +kernel
theorem dX9_ways_2 : decode cX9_ways 2 = .ok (.iconst 0, 1) := by decide +kernel
theorem dX9_ways_3 : decode cX9_ways 3 = .ok (.istore_n 3, 1) := by decide +kernel
theorem dX9_ways_4 : decode cX9_ways 4 = .ok (.iload_n 3, 1) := by decide +kernel
theorem dX9_ways_5 : decode cX9_ways 5 = .ok (.aload_n 0, 1) := by decide +kernel
theorem dX9_ways_6 : decode cX9_ways 6 = .ok (.getfield 196, 3) := by decide +kernel
theorem dX9_ways_9 : decode cX9_ways 9 = .ok (.if_icmp .ge 27, 3) := by decide +kernel
theorem dX9_ways_12 : decode cX9_ways 12 = .ok (.iload_n 2, 1) := by decide +kernel
theorem dX9_ways_13 : decode cX9_ways 13 = .ok (.aload_n 0, 1) := by decide +kernel
theorem dX9_ways_14 : decode cX9_ways 14 = .ok (.getfield 69, 3) := by decide +kernel
theorem dX9_ways_17 : decode cX9_ways 17 = .ok (.iload_n 3, 1) := by decide +kernel
theorem dX9_ways_18 : decode cX9_ways 18 = .ok (.iaload, 1) := by decide +kernel
theorem dX9_ways_19 : decode cX9_ways 19 = .ok (.iload_n 1, 1) := by decide +kernel
theorem dX9_ways_20 : decode cX9_ways 20 = .ok (.if_icmp .ne 7, 3) := by decide +kernel
theorem dX9_ways_23 : decode cX9_ways 23 = .ok (.iconst 1, 1) := by decide +kernel
theorem dX9_ways_24 : decode cX9_ways 24 = .ok (.goto 4, 3) := by decide +kernel
theorem dX9_ways_27 : decode cX9_ways 27 = .ok (.iconst 0, 1) := by decide +kernel
theorem dX9_ways_28 : decode cX9_ways 28 = .ok (.iadd, 1) := by decide +kernel
theorem dX9_ways_29 : decode cX9_ways 29 = .ok (.istore_n 2, 1) := by decide +kernel
theorem dX9_ways_30 : decode cX9_ways 30 = .ok (.iinc 3 1, 3) := by decide +kernel
theorem dX9_ways_33 : decode cX9_ways 33 = .ok (.goto (-29), 3) := by decide +kernel
theorem dX9_ways_36 : decode cX9_ways 36 = .ok (.iload_n 2, 1) := by decide +kernel
theorem dX9_ways_37 : decode cX9_ways 37 = .ok (.ireturn, 1) := by decide +kernel
theorem dX9_idle_0 : decode cX9_idle 0 = .ok (.iconst 0, 1) := by decide +kernel
theorem dX9_idle_1 : decode cX9_idle 1 = .ok (.istore_n 1, 1) := by decide +kernel
theorem dX9_idle_2 : decode cX9_idle 2 = .ok (.iconst 0, 1) := by decide +kernel
theorem dX9_idle_3 : decode cX9_idle 3 = .ok (.istore_n 2, 1) := by decide +kernel
theorem dX9_idle_4 : decode cX9_idle 4 = .ok (.iload_n 2, 1) := by decide +kernel
theorem dX9_idle_5 : decode cX9_idle 5 = .ok (.aload_n 0, 1) := by decide +kernel
theorem dX9_idle_6 : decode cX9_idle 6 = .ok (.getfield 180, 3) := by decide +kernel
theorem dX9_idle_9 : decode cX9_idle 9 = .ok (.if_icmp .ge 26, 3) := by decide +kernel
theorem dX9_idle_12 : decode cX9_idle 12 = .ok (.iload_n 1, 1) := by decide +kernel
theorem dX9_idle_13 : decode cX9_idle 13 = .ok (.aload_n 0, 1) := by decide +kernel
theorem dX9_idle_14 : decode cX9_idle 14 = .ok (.getfield 96, 3) := by decide +kernel
theorem dX9_idle_17 : decode cX9_idle 17 = .ok (.iload_n 2, 1) := by decide +kernel
theorem dX9_idle_18 : decode cX9_idle 18 = .ok (.iaload, 1) := by decide +kernel
theorem dX9_idle_19 : decode cX9_idle 19 = .ok (.ifCond .ne 7, 3) := by decide +kernel
theorem dX9_idle_22 : decode cX9_idle 22 = .ok (.iconst 1, 1) := by decide +kernel
theorem dX9_idle_23 : decode cX9_idle 23 = .ok (.goto 4, 3) := by decide +kernel
theorem dX9_idle_26 : decode cX9_idle 26 = .ok (.iconst 0, 1) := by decide +kernel
theorem dX9_idle_27 : decode cX9_idle 27 = .ok (.iadd, 1) := by decide +kernel
theorem dX9_idle_28 : decode cX9_idle 28 = .ok (.istore_n 1, 1) := by decide +kernel
theorem dX9_idle_29 : decode cX9_idle 29 = .ok (.iinc 2 1, 3) := by decide +kernel
theorem dX9_idle_32 : decode cX9_idle 32 = .ok (.goto (-28), 3) := by decide +kernel
theorem dX9_idle_35 : decode cX9_idle 35 = .ok (.iload_n 1, 1) := by decide +kernel
theorem dX9_idle_36 : decode cX9_idle 36 = .ok (.ireturn, 1) := by decide +kernel
theorem dX9_between_0 : decode cX9_between 0 = .ok (.aload_n 0, 1) := by decide +kernel
theorem dX9_between_1 : decode cX9_between 1 = .ok (.getfield 143, 3) := by decide +kernel
theorem dX9_between_4 : decode cX9_between 4 = .ok (.aload_n 0, 1) := by decide +kernel
theorem dX9_between_5 : decode cX9_between 5 = .ok (.getfield 199, 3) := by decide +kernel
