theorem dX9_between_8 : decode cX9_between 8 = .ok (.lsub, 1) := by decide +kernel
theorem dX9_between_9 : decode cX9_between 9 = .ok (.lstore_n 1, 1) := by decide +kernel
theorem dX9_between_10 : decode cX9_between 10 = .ok (.iconst 0, 1) := by decide +kernel
theorem dX9_between_11 : decode cX9_between 11 = .ok (.istore_n 3, 1) := by decide +kernel
theorem dX9_between_12 : decode cX9_between 12 = .ok (.iload_n 3, 1) := by decide +kernel
theorem dX9_between_13 : decode cX9_between 13 = .ok (.aload_n 0, 1) := by decide +kernel
theorem dX9_between_14 : decode cX9_between 14 = .ok (.getfield 190, 3) := by decide +kernel
theorem dX9_between_17 : decode cX9_between 17 = .ok (.if_icmp .ge 25, 3) := by decide +kernel
theorem dX9_between_20 : decode cX9_between 20 = .ok (.lload_n 1, 1) := by decide +kernel
theorem dX9_between_21 : decode cX9_between 21 = .ok (.aload_n 0, 1) := by decide +kernel
theorem dX9_between_22 : decode cX9_between 22 = .ok (.getfield 48, 3) := by decide +kernel
theorem dX9_between_25 : decode cX9_between 25 = .ok (.iload_n 3, 1) := by decide +kernel
theorem dX9_between_26 : decode cX9_between 26 = .ok (.laload, 1) := by decide +kernel
theorem dX9_between_27 : decode cX9_between 27 = .ok (.aload_n 0, 1) := by decide +kernel
theorem dX9_between_28 : decode cX9_between 28 = .ok (.getfield 44, 3) := by decide +kernel
theorem dX9_between_31 : decode cX9_between 31 = .ok (.iload_n 3, 1) := by decide +kernel
theorem dX9_between_32 : decode cX9_between 32 = .ok (.laload, 1) := by decide +kernel
theorem dX9_between_33 : decode cX9_between 33 = .ok (.lsub, 1) := by decide +kernel
theorem dX9_between_34 : decode cX9_between 34 = .ok (.lsub, 1) := by decide +kernel
theorem dX9_between_35 : decode cX9_between 35 = .ok (.lstore_n 1, 1) := by decide +kernel
theorem dX9_between_36 : decode cX9_between 36 = .ok (.iinc 3 1, 3) := by decide +kernel
theorem dX9_between_39 : decode cX9_between 39 = .ok (.goto (-27), 3) := by decide +kernel
theorem dX9_between_42 : decode cX9_between 42 = .ok (.lload_n 1, 1) := by decide +kernel
theorem dX9_between_43 : decode cX9_between 43 = .ok (.aload_n 0, 1) := by decide +kernel
theorem dX9_between_44 : decode cX9_between 44 = .ok (.getfield 180, 3) := by decide +kernel
theorem dX9_between_47 : decode cX9_between 47 = .ok (.i2l, 1) := by decide +kernel
theorem dX9_between_48 : decode cX9_between 48 = .ok (.aload_n 0, 1) := by decide +kernel
theorem dX9_between_49 : decode cX9_between 49 = .ok (.getfield 202, 3) := by decide +kernel
theorem dX9_between_52 : decode cX9_between 52 = .ok (.i2l, 1) := by decide +kernel
theorem dX9_between_53 : decode cX9_between 53 = .ok (.lmul, 1) := by decide +kernel
theorem dX9_between_54 : decode cX9_between 54 = .ok (.lsub, 1) := by decide +kernel
theorem dX9_between_55 : decode cX9_between 55 = .ok (.lreturn, 1) := by decide +kernel
theorem dX9_count_0 : decode cX9_count 0 = .ok (.iload_n 1, 1) := by decide +kernel
theorem dX9_count_1 : decode cX9_count 1 = .ok (.iconst 0, 1) := by decide +kernel
theorem dX9_count_2 : decode cX9_count 2 = .ok (.bipush 7, 2) := by decide +kernel
theorem dX9_count_4 : decode cX9_count 4 = .ok (.invokestatic 110, 3) := by decide +kernel
theorem dX9_count_7 : decode cX9_count 7 = .ok (.ifCond .eq 24, 3) := by decide +kernel
theorem dX9_count_10 : decode cX9_count 10 = .ok (.aload_n 0, 1) := by decide +kernel
theorem dX9_count_11 : decode cX9_count 11 = .ok (.getfield 187, 3) := by decide +kernel
theorem dX9_count_14 : decode cX9_count 14 = .ok (.ifCond .eq 15, 3) := by decide +kernel
theorem dX9_count_17 : decode cX9_count 17 = .ok (.iload_n 1, 1) := by decide +kernel
theorem dX9_count_18 : decode cX9_count 18 = .ok (.iconst 5, 1) := by decide +kernel
theorem dX9_count_19 : decode cX9_count 19 = .ok (.if_icmp .le 12, 3) := by decide +kernel
theorem dX9_count_22 : decode cX9_count 22 = .ok (.aload_n 0, 1) := by decide +kernel
theorem dX9_count_23 : decode cX9_count 23 = .ok (.getfield 190, 3) := by decide +kernel
theorem dX9_count_26 : decode cX9_count 26 = .ok (.ifCond .ne 5, 3) := by decide +kernel
theorem dX9_count_29 : decode cX9_count 29 = .ok (.iconst 0, 1) := by decide +kernel
theorem dX9_count_30 : decode cX9_count 30 = .ok (.ireturn, 1) := by decide +kernel
theorem dX9_count_31 : decode cX9_count 31 = .ok (.iload_n 1, 1) := by decide +kernel
theorem dX9_count_32 : decode cX9_count 32 = .ok (.tableswitch 159 0 14 #[76, 81, 86, 92, 98, 104, 109, 115, 159, 159, 126, 131, 136, 141, 146], 76) := by decide +kernel
theorem dX9_count_108 : decode cX9_count 108 = .ok (.aload_n 0, 1) := by decide +kernel
theorem dX9_count_109 : decode cX9_count 109 = .ok (.getfield 177, 3) := by decide +kernel
theorem dX9_count_112 : decode cX9_count 112 = .ok (.ireturn, 1) := by decide +kernel
theorem dX9_count_113 : decode cX9_count 113 = .ok (.aload_n 0, 1) := by decide +kernel
theorem dX9_count_114 : decode cX9_count 114 = .ok (.getfield 180, 3) := by decide +kernel
theorem dX9_count_117 : decode cX9_count 117 = .ok (.ireturn, 1) := by decide +kernel
theorem dX9_count_118 : decode cX9_count 118 = .ok (.aload_n 0, 1) := by decide +kernel
theorem dX9_count_119 : decode cX9_count 119 = .ok (.iconst 0, 1) := by decide +kernel
theorem dX9_count_120 : decode cX9_count 120 = .ok (.invokevirtual 208, 3) := by decide +kernel
theorem dX9_count_123 : decode cX9_count 123 = .ok (.ireturn, 1) := by decide +kernel
theorem dX9_count_124 : decode cX9_count 124 = .ok (.aload_n 0, 1) := by decide +kernel
theorem dX9_count_125 : decode cX9_count 125 = .ok (.iconst 1, 1) := by decide +kernel
theorem dX9_count_126 : decode cX9_count 126 = .ok (.invokevirtual 208, 3) := by decide +kernel
theorem dX9_count_129 : decode cX9_count 129 = .ok (.ireturn, 1) := by decide +kernel
theorem dX9_count_130 : decode cX9_count 130 = .ok (.aload_n 0, 1) := by decide +kernel
theorem dX9_count_131 : decode cX9_count 131 = .ok (.iconst 2, 1) := by decide +kernel
theorem dX9_count_132 : decode cX9_count 132 = .ok (.invokevirtual 208, 3) := by decide +kernel
theorem dX9_count_135 : decode cX9_count 135 = .ok (.ireturn, 1) := by decide +kernel
theorem dX9_count_136 : decode cX9_count 136 = .ok (.aload_n 0, 1) := by decide +kernel
theorem dX9_count_137 : decode cX9_count 137 = .ok (.invokevirtual 212, 3) := by decide +kernel
theorem dX9_count_140 : decode cX9_count 140 = .ok (.ireturn, 1) := by decide +kernel
theorem dX9_count_141 : decode cX9_count 141 = .ok (.aload_n 0, 1) := by decide +kernel
theorem dX9_count_142 : decode cX9_count 142 = .ok (.invokevirtual 215, 3) := by decide +kernel
theorem dX9_count_145 : decode cX9_count 145 = .ok (.l2i, 1) := by decide +kernel
theorem dX9_count_146 : decode cX9_count 146 = .ok (.ireturn, 1) := by decide +kernel
theorem dX9_count_147 : decode cX9_count 147 = .ok (.aload_n 0, 1) := by decide +kernel
theorem dX9_count_148 : decode cX9_count 148 = .ok (.getfield 143, 3) := by decide +kernel
theorem dX9_count_151 : decode cX9_count 151 = .ok (.aload_n 0, 1) := by decide +kernel
theorem dX9_count_152 : decode cX9_count 152 = .ok (.getfield 199, 3) := by decide +kernel
theorem dX9_count_155 : decode cX9_count 155 = .ok (.lsub, 1) := by decide +kernel
theorem dX9_count_156 : decode cX9_count 156 = .ok (.l2i, 1) := by decide +kernel
theorem dX9_count_157 : decode cX9_count 157 = .ok (.ireturn, 1) := by decide +kernel
theorem dX9_count_158 : decode cX9_count 158 = .ok (.aload_n 0, 1) := by decide +kernel
theorem dX9_count_159 : decode cX9_count 159 = .ok (.getfield 105, 3) := by decide +kernel
theorem dX9_count_162 : decode cX9_count 162 = .ok (.ireturn, 1) := by decide +kernel
theorem dX9_count_163 : decode cX9_count 163 = .ok (.aload_n 0, 1) := by decide +kernel
theorem dX9_count_164 : decode cX9_count 164 = .ok (.getfield 121, 3) := by decide +kernel
theorem dX9_count_167 : decode cX9_count 167 = .ok (.ireturn, 1) := by decide +kernel
theorem dX9_count_168 : decode cX9_count 168 = .ok (.aload_n 0, 1) := by decide +kernel
theorem dX9_count_169 : decode cX9_count 169 = .ok (.getfield 124, 3) := by decide +kernel
theorem dX9_count_172 : decode cX9_count 172 = .ok (.ireturn, 1) := by decide +kernel
theorem dX9_count_173 : decode cX9_count 173 = .ok (.aload_n 0, 1) := by decide +kernel
theorem dX9_count_174 : decode cX9_count 174 = .ok (.getfield 114, 3) := by decide +kernel
theorem dX9_count_177 : decode cX9_count 177 = .ok (.ireturn, 1) := by decide +kernel
theorem dX9_count_178 : decode cX9_count 178 = .ok (.aload_n 0, 1) := by decide +kernel
theorem dX9_count_179 : decode cX9_count 179 = .ok (.getfield 117, 3) := by decide +kernel
theorem dX9_count_182 : decode cX9_count 182 = .ok (.ifCond .eq 7, 3) := by decide +kernel
theorem dX9_count_185 : decode cX9_count 185 = .ok (.iconst 1, 1) := by decide +kernel
theorem dX9_count_186 : decode cX9_count 186 = .ok (.goto 4, 3) := by decide +kernel
theorem dX9_count_189 : decode cX9_count 189 = .ok (.iconst 0, 1) := by decide +kernel
theorem dX9_count_190 : decode cX9_count 190 = .ok (.ireturn, 1) := by decide +kernel
theorem dX9_count_191 : decode cX9_count 191 = .ok (.iconst (-1), 1) := by decide +kernel
theorem dX9_count_192 : decode cX9_count 192 = .ok (.ireturn, 1) := by decide +kernel
theorem dX9_address_0 : decode cX9_address 0 = .ok (.aload_n 0, 1) := by decide +kernel
theorem dX9_address_1 : decode cX9_address 1 = .ok (.getfield 187, 3) := by decide +kernel
theorem dX9_address_4 : decode cX9_address 4 = .ok (.ifCond .eq 7, 3) := by decide +kernel
theorem dX9_address_7 : decode cX9_address 7 = .ok (.iload_n 2, 1) := by decide +kernel
theorem dX9_address_8 : decode cX9_address 8 = .ok (.ifCond .ge 7, 3) := by decide +kernel
theorem dX9_address_11 : decode cX9_address 11 = .ok (.ldc2_w 219, 3) := by decide +kernel
theorem dX9_address_14 : decode cX9_address 14 = .ok (.lreturn, 1) := by decide +kernel
theorem dX9_address_15 : decode cX9_address 15 = .ok (.iload_n 1, 1) := by decide +kernel
theorem dX9_address_16 : decode cX9_address 16 = .ok (.tableswitch 150 0 4 #[36, 57, 78, 99, 120], 36) := by decide +kernel
theorem dX9_address_52 : decode cX9_address 52 = .ok (.iload_n 2, 1) := by decide +kernel
theorem dX9_address_53 : decode cX9_address 53 = .ok (.aload_n 0, 1) := by decide +kernel
theorem dX9_address_54 : decode cX9_address 54 = .ok (.getfield 190, 3) := by decide +kernel
theorem dX9_address_57 : decode cX9_address 57 = .ok (.if_icmp .ge 12, 3) := by decide +kernel
theorem dX9_address_60 : decode cX9_address 60 = .ok (.aload_n 0, 1) := by decide +kernel
theorem dX9_address_61 : decode cX9_address 61 = .ok (.getfield 44, 3) := by decide +kernel
theorem dX9_address_64 : decode cX9_address 64 = .ok (.iload_n 2, 1) := by decide +kernel
theorem dX9_address_65 : decode cX9_address 65 = .ok (.laload, 1) := by decide +kernel
theorem dX9_address_66 : decode cX9_address 66 = .ok (.goto 6, 3) := by decide +kernel
theorem dX9_address_69 : decode cX9_address 69 = .ok (.ldc2_w 219, 3) := by decide +kernel
theorem dX9_address_72 : decode cX9_address 72 = .ok (.lreturn, 1) := by decide +kernel
theorem dX9_address_73 : decode cX9_address 73 = .ok (.iload_n 2, 1) := by decide +kernel
theorem dX9_address_74 : decode cX9_address 74 = .ok (.aload_n 0, 1) := by decide +kernel
theorem dX9_address_75 : decode cX9_address 75 = .ok (.getfield 193, 3) := by decide +kernel
theorem dX9_address_78 : decode cX9_address 78 = .ok (.if_icmp .ge 12, 3) := by decide +kernel
theorem dX9_address_81 : decode cX9_address 81 = .ok (.aload_n 0, 1) := by decide +kernel
theorem dX9_address_82 : decode cX9_address 82 = .ok (.getfield 57, 3) := by decide +kernel
theorem dX9_address_85 : decode cX9_address 85 = .ok (.iload_n 2, 1) := by decide +kernel
theorem dX9_address_86 : decode cX9_address 86 = .ok (.laload, 1) := by decide +kernel
theorem dX9_address_87 : decode cX9_address 87 = .ok (.goto 6, 3) := by decide +kernel
theorem dX9_address_90 : decode cX9_address 90 = .ok (.ldc2_w 219, 3) := by decide +kernel
theorem dX9_address_93 : decode cX9_address 93 = .ok (.lreturn, 1) := by decide +kernel
theorem dX9_address_94 : decode cX9_address 94 = .ok (.iload_n 2, 1) := by decide +kernel
theorem dX9_address_95 : decode cX9_address 95 = .ok (.aload_n 0, 1) := by decide +kernel
theorem dX9_address_96 : decode cX9_address 96 = .ok (.getfield 196, 3) := by decide +kernel
theorem dX9_address_99 : decode cX9_address 99 = .ok (.if_icmp .ge 12, 3) := by decide +kernel
theorem dX9_address_102 : decode cX9_address 102 = .ok (.aload_n 0, 1) := by decide +kernel
theorem dX9_address_103 : decode cX9_address 103 = .ok (.getfield 60, 3) := by decide +kernel
theorem dX9_address_106 : decode cX9_address 106 = .ok (.iload_n 2, 1) := by decide +kernel
theorem dX9_address_107 : decode cX9_address 107 = .ok (.laload, 1) := by decide +kernel
theorem dX9_address_108 : decode cX9_address 108 = .ok (.goto 6, 3) := by decide +kernel
theorem dX9_address_111 : decode cX9_address 111 = .ok (.ldc2_w 219, 3) := by decide +kernel
theorem dX9_address_114 : decode cX9_address 114 = .ok (.lreturn, 1) := by decide +kernel
theorem dX9_address_115 : decode cX9_address 115 = .ok (.iload_n 2, 1) := by decide +kernel
theorem dX9_address_116 : decode cX9_address 116 = .ok (.aload_n 0, 1) := by decide +kernel
theorem dX9_address_117 : decode cX9_address 117 = .ok (.getfield 180, 3) := by decide +kernel
theorem dX9_address_120 : decode cX9_address 120 = .ok (.if_icmp .ge 12, 3) := by decide +kernel
theorem dX9_address_123 : decode cX9_address 123 = .ok (.aload_n 0, 1) := by decide +kernel
theorem dX9_address_124 : decode cX9_address 124 = .ok (.getfield 81, 3) := by decide +kernel
theorem dX9_address_127 : decode cX9_address 127 = .ok (.iload_n 2, 1) := by decide +kernel
theorem dX9_address_128 : decode cX9_address 128 = .ok (.laload, 1) := by decide +kernel
theorem dX9_address_129 : decode cX9_address 129 = .ok (.goto 6, 3) := by decide +kernel
theorem dX9_address_132 : decode cX9_address 132 = .ok (.ldc2_w 219, 3) := by decide +kernel
theorem dX9_address_135 : decode cX9_address 135 = .ok (.lreturn, 1) := by decide +kernel
theorem dX9_address_136 : decode cX9_address 136 = .ok (.iload_n 2, 1) := by decide +kernel
theorem dX9_address_137 : decode cX9_address 137 = .ok (.aload_n 0, 1) := by decide +kernel
theorem dX9_address_138 : decode cX9_address 138 = .ok (.getfield 190, 3) := by decide +kernel
theorem dX9_address_141 : decode cX9_address 141 = .ok (.if_icmp .ge 21, 3) := by decide +kernel
theorem dX9_address_144 : decode cX9_address 144 = .ok (.aload_n 0, 1) := by decide +kernel
theorem dX9_address_145 : decode cX9_address 145 = .ok (.getfield 51, 3) := by decide +kernel
theorem dX9_address_148 : decode cX9_address 148 = .ok (.iload_n 2, 1) := by decide +kernel
theorem dX9_address_149 : decode cX9_address 149 = .ok (.baload, 1) := by decide +kernel
theorem dX9_address_150 : decode cX9_address 150 = .ok (.ifCond .eq 12, 3) := by decide +kernel
theorem dX9_address_153 : decode cX9_address 153 = .ok (.aload_n 0, 1) := by decide +kernel
theorem dX9_address_154 : decode cX9_address 154 = .ok (.getfield 54, 3) := by decide +kernel
theorem dX9_address_157 : decode cX9_address 157 = .ok (.iload_n 2, 1) := by decide +kernel
theorem dX9_address_158 : decode cX9_address 158 = .ok (.laload, 1) := by decide +kernel
theorem dX9_address_159 : decode cX9_address 159 = .ok (.goto 6, 3) := by decide +kernel
theorem dX9_address_162 : decode cX9_address 162 = .ok (.ldc2_w 219, 3) := by decide +kernel
theorem dX9_address_165 : decode cX9_address 165 = .ok (.lreturn, 1) := by decide +kernel
theorem dX9_address_166 : decode cX9_address 166 = .ok (.ldc2_w 219, 3) := by decide +kernel
theorem dX9_address_169 : decode cX9_address 169 = .ok (.lreturn, 1) := by decide +kernel
theorem dX9_route_0 : decode cX9_route 0 = .ok (.aload_n 0, 1) := by decide +kernel
theorem dX9_route_1 : decode cX9_route 1 = .ok (.getfield 187, 3) := by decide +kernel
theorem dX9_route_4 : decode cX9_route 4 = .ok (.ifCond .eq 17, 3) := by decide +kernel
theorem dX9_route_7 : decode cX9_route 7 = .ok (.iload_n 1, 1) := by decide +kernel
theorem dX9_route_8 : decode cX9_route 8 = .ok (.iconst 0, 1) := by decide +kernel
theorem dX9_route_9 : decode cX9_route 9 = .ok (.aload_n 0, 1) := by decide +kernel
theorem dX9_route_10 : decode cX9_route 10 = .ok (.getfield 196, 3) := by decide +kernel
theorem dX9_route_13 : decode cX9_route 13 = .ok (.iconst 1, 1) := by decide +kernel
theorem dX9_route_14 : decode cX9_route 14 = .ok (.isub, 1) := by decide +kernel
theorem dX9_route_15 : decode cX9_route 15 = .ok (.invokestatic 110, 3) := by decide +kernel
theorem dX9_route_18 : decode cX9_route 18 = .ok (.ifCond .ne 5, 3) := by decide +kernel
theorem dX9_route_21 : decode cX9_route 21 = .ok (.iconst (-1), 1) := by decide +kernel
theorem dX9_route_22 : decode cX9_route 22 = .ok (.ireturn, 1) := by decide +kernel
theorem dX9_route_23 : decode cX9_route 23 = .ok (.iload_n 2, 1) := by decide +kernel
theorem dX9_route_24 : decode cX9_route 24 = .ok (.ifCond .ne 12, 3) := by decide +kernel
theorem dX9_route_27 : decode cX9_route 27 = .ok (.aload_n 0, 1) := by decide +kernel
theorem dX9_route_28 : decode cX9_route 28 = .ok (.getfield 69, 3) := by decide +kernel
theorem dX9_route_31 : decode cX9_route 31 = .ok (.iload_n 1, 1) := by decide +kernel
theorem dX9_route_32 : decode cX9_route 32 = .ok (.iaload, 1) := by decide +kernel
theorem dX9_route_33 : decode cX9_route 33 = .ok (.goto 18, 3) := by decide +kernel
theorem dX9_route_36 : decode cX9_route 36 = .ok (.iload_n 2, 1) := by decide +kernel
theorem dX9_route_37 : decode cX9_route 37 = .ok (.iconst 1, 1) := by decide +kernel
theorem dX9_route_38 : decode cX9_route 38 = .ok (.if_icmp .ne 12, 3) := by decide +kernel
theorem dX9_route_41 : decode cX9_route 41 = .ok (.aload_n 0, 1) := by decide +kernel
theorem dX9_route_42 : decode cX9_route 42 = .ok (.getfield 72, 3) := by decide +kernel
theorem dX9_route_45 : decode cX9_route 45 = .ok (.iload_n 1, 1) := by decide +kernel
theorem dX9_route_46 : decode cX9_route 46 = .ok (.iaload, 1) := by decide +kernel
theorem dX9_route_47 : decode cX9_route 47 = .ok (.goto 4, 3) := by decide +kernel
theorem dX9_route_50 : decode cX9_route 50 = .ok (.iconst (-1), 1) := by decide +kernel
theorem dX9_route_51 : decode cX9_route 51 = .ok (.ireturn, 1) := by decide +kernel
theorem dX9_thunk_0 : decode cX9_thunk 0 = .ok (.aload_n 0, 1) := by decide +kernel
theorem dX9_thunk_1 : decode cX9_thunk 1 = .ok (.getfield 187, 3) := by decide +kernel
theorem dX9_thunk_4 : decode cX9_thunk 4 = .ok (.ifCond .eq 17, 3) := by decide +kernel
theorem dX9_thunk_7 : decode cX9_thunk 7 = .ok (.iload_n 1, 1) := by decide +kernel
theorem dX9_thunk_8 : decode cX9_thunk 8 = .ok (.iconst 0, 1) := by decide +kernel
theorem dX9_thunk_9 : decode cX9_thunk 9 = .ok (.aload_n 0, 1) := by decide +kernel
theorem dX9_thunk_10 : decode cX9_thunk 10 = .ok (.getfield 180, 3) := by decide +kernel
theorem dX9_thunk_13 : decode cX9_thunk 13 = .ok (.iconst 1, 1) := by decide +kernel
theorem dX9_thunk_14 : decode cX9_thunk 14 = .ok (.isub, 1) := by decide +kernel
theorem dX9_thunk_15 : decode cX9_thunk 15 = .ok (.invokestatic 110, 3) := by decide +kernel
theorem dX9_thunk_18 : decode cX9_thunk 18 = .ok (.ifCond .ne 5, 3) := by decide +kernel
theorem dX9_thunk_21 : decode cX9_thunk 21 = .ok (.iconst (-1), 1) := by decide +kernel
theorem dX9_thunk_22 : decode cX9_thunk 22 = .ok (.ireturn, 1) := by decide +kernel
theorem dX9_thunk_23 : decode cX9_thunk 23 = .ok (.iload_n 2, 1) := by decide +kernel
theorem dX9_thunk_24 : decode cX9_thunk 24 = .ok (.tableswitch 82 0 5 #[40, 47, 54, 61, 68, 75], 40) := by decide +kernel
theorem dX9_thunk_64 : decode cX9_thunk 64 = .ok (.aload_n 0, 1) := by decide +kernel
theorem dX9_thunk_65 : decode cX9_thunk 65 = .ok (.getfield 84, 3) := by decide +kernel
theorem dX9_thunk_68 : decode cX9_thunk 68 = .ok (.iload_n 1, 1) := by decide +kernel
theorem dX9_thunk_69 : decode cX9_thunk 69 = .ok (.iaload, 1) := by decide +kernel
theorem dX9_thunk_70 : decode cX9_thunk 70 = .ok (.ireturn, 1) := by decide +kernel
theorem dX9_thunk_71 : decode cX9_thunk 71 = .ok (.aload_n 0, 1) := by decide +kernel
theorem dX9_thunk_72 : decode cX9_thunk 72 = .ok (.getfield 87, 3) := by decide +kernel
theorem dX9_thunk_75 : decode cX9_thunk 75 = .ok (.iload_n 1, 1) := by decide +kernel
theorem dX9_thunk_76 : decode cX9_thunk 76 = .ok (.iaload, 1) := by decide +kernel
theorem dX9_thunk_77 : decode cX9_thunk 77 = .ok (.ireturn, 1) := by decide +kernel
theorem dX9_thunk_78 : decode cX9_thunk 78 = .ok (.aload_n 0, 1) := by decide +kernel
theorem dX9_thunk_79 : decode cX9_thunk 79 = .ok (.getfield 90, 3) := by decide +kernel
theorem dX9_thunk_82 : decode cX9_thunk 82 = .ok (.iload_n 1, 1) := by decide +kernel
theorem dX9_thunk_83 : decode cX9_thunk 83 = .ok (.iaload, 1) := by decide +kernel
theorem dX9_thunk_84 : decode cX9_thunk 84 = .ok (.ireturn, 1) := by decide +kernel
theorem dX9_thunk_85 : decode cX9_thunk 85 = .ok (.aload_n 0, 1) := by decide +kernel
theorem dX9_thunk_86 : decode cX9_thunk 86 = .ok (.getfield 93, 3) := by decide +kernel
theorem dX9_thunk_89 : decode cX9_thunk 89 = .ok (.iload_n 1, 1) := by decide +kernel
theorem dX9_thunk_90 : decode cX9_thunk 90 = .ok (.iaload, 1) := by decide +kernel
theorem dX9_thunk_91 : decode cX9_thunk 91 = .ok (.ireturn, 1) := by decide +kernel
theorem dX9_thunk_92 : decode cX9_thunk 92 = .ok (.aload_n 0, 1) := by decide +kernel
theorem dX9_thunk_93 : decode cX9_thunk 93 = .ok (.getfield 96, 3) := by decide +kernel
theorem dX9_thunk_96 : decode cX9_thunk 96 = .ok (.iload_n 1, 1) := by decide +kernel
theorem dX9_thunk_97 : decode cX9_thunk 97 = .ok (.iaload, 1) := by decide +kernel
theorem dX9_thunk_98 : decode cX9_thunk 98 = .ok (.ireturn, 1) := by decide +kernel
theorem dX9_thunk_99 : decode cX9_thunk 99 = .ok (.aload_n 0, 1) := by decide +kernel
theorem dX9_thunk_100 : decode cX9_thunk 100 = .ok (.getfield 99, 3) := by decide +kernel
theorem dX9_thunk_103 : decode cX9_thunk 103 = .ok (.iload_n 1, 1) := by decide +kernel
theorem dX9_thunk_104 : decode cX9_thunk 104 = .ok (.iaload, 1) := by decide +kernel
theorem dX9_thunk_105 : decode cX9_thunk 105 = .ok (.ireturn, 1) := by decide +kernel
theorem dX9_thunk_106 : decode cX9_thunk 106 = .ok (.iconst (-1), 1) := by decide +kernel
theorem dX9_thunk_107 : decode cX9_thunk 107 = .ok (.ireturn, 1) := by decide +kernel
theorem dX9_laidReaches_0 : decode cX9_laidReaches 0 = .ok (.lload 4, 2) := by decide +kernel
theorem dX9_laidReaches_2 : decode cX9_laidReaches 2 = .ok (.lload_n 2, 1) := by decide +kernel
theorem dX9_laidReaches_3 : decode cX9_laidReaches 3 = .ok (.lsub, 1) := by decide +kernel
theorem dX9_laidReaches_4 : decode cX9_laidReaches 4 = .ok (.lstore 6, 2) := by decide +kernel
theorem dX9_laidReaches_6 : decode cX9_laidReaches 6 = .ok (.lconst 1, 1) := by decide +kernel
theorem dX9_laidReaches_7 : decode cX9_laidReaches 7 = .ok (.aload_n 0, 1) := by decide +kernel
theorem dX9_laidReaches_8 : decode cX9_laidReaches 8 = .ok (.getfield 78, 3) := by decide +kernel
theorem dX9_laidReaches_11 : decode cX9_laidReaches 11 = .ok (.iload_n 1, 1) := by decide +kernel
theorem dX9_laidReaches_12 : decode cX9_laidReaches 12 = .ok (.iaload, 1) := by decide +kernel
theorem dX9_laidReaches_13 : decode cX9_laidReaches 13 = .ok (.iconst 1, 1) := by decide +kernel
theorem dX9_laidReaches_14 : decode cX9_laidReaches 14 = .ok (.isub, 1) := by decide +kernel
theorem dX9_laidReaches_15 : decode cX9_laidReaches 15 = .ok (.lshl, 1) := by decide +kernel
theorem dX9_laidReaches_16 : decode cX9_laidReaches 16 = .ok (.aload_n 0, 1) := by decide +kernel
theorem dX9_laidReaches_17 : decode cX9_laidReaches 17 = .ok (.getfield 75, 3) := by decide +kernel
theorem dX9_laidReaches_20 : decode cX9_laidReaches 20 = .ok (.iload_n 1, 1) := by decide +kernel
theorem dX9_laidReaches_21 : decode cX9_laidReaches 21 = .ok (.iaload, 1) := by decide +kernel
theorem dX9_laidReaches_22 : decode cX9_laidReaches 22 = .ok (.i2l, 1) := by decide +kernel
theorem dX9_laidReaches_23 : decode cX9_laidReaches 23 = .ok (.lmul, 1) := by decide +kernel
theorem dX9_laidReaches_24 : decode cX9_laidReaches 24 = .ok (.lstore 8, 2) := by decide +kernel
theorem dX9_laidReaches_26 : decode cX9_laidReaches 26 = .ok (.lload 6, 2) := by decide +kernel
theorem dX9_laidReaches_28 : decode cX9_laidReaches 28 = .ok (.aload_n 0, 1) := by decide +kernel
theorem dX9_laidReaches_29 : decode cX9_laidReaches 29 = .ok (.getfield 75, 3) := by decide +kernel
theorem dX9_laidReaches_32 : decode cX9_laidReaches 32 = .ok (.iload_n 1, 1) := by decide +kernel
theorem dX9_laidReaches_33 : decode cX9_laidReaches 33 = .ok (.iaload, 1) := by decide +kernel
theorem dX9_laidReaches_34 : decode cX9_laidReaches 34 = .ok (.i2l, 1) := by decide +kernel
theorem dX9_laidReaches_35 : decode cX9_laidReaches 35 = .ok (.lrem, 1) := by decide +kernel
theorem dX9_laidReaches_36 : decode cX9_laidReaches 36 = .ok (.lconst 0, 1) := by decide +kernel
theorem dX9_laidReaches_37 : decode cX9_laidReaches 37 = .ok (.lcmp, 1) := by decide +kernel
theorem dX9_laidReaches_38 : decode cX9_laidReaches 38 = .ok (.ifCond .ne 32, 3) := by decide +kernel
theorem dX9_laidReaches_41 : decode cX9_laidReaches 41 = .ok (.lload 6, 2) := by decide +kernel
theorem dX9_laidReaches_43 : decode cX9_laidReaches 43 = .ok (.lload 8, 2) := by decide +kernel
theorem dX9_laidReaches_45 : decode cX9_laidReaches 45 = .ok (.lneg, 1) := by decide +kernel
theorem dX9_laidReaches_46 : decode cX9_laidReaches 46 = .ok (.lcmp, 1) := by decide +kernel
theorem dX9_laidReaches_47 : decode cX9_laidReaches 47 = .ok (.ifCond .lt 23, 3) := by decide +kernel
theorem dX9_laidReaches_50 : decode cX9_laidReaches 50 = .ok (.lload 6, 2) := by decide +kernel
theorem dX9_laidReaches_52 : decode cX9_laidReaches 52 = .ok (.lload 8, 2) := by decide +kernel
theorem dX9_laidReaches_54 : decode cX9_laidReaches 54 = .ok (.aload_n 0, 1) := by decide +kernel
theorem dX9_laidReaches_55 : decode cX9_laidReaches 55 = .ok (.getfield 75, 3) := by decide +kernel
theorem dX9_laidReaches_58 : decode cX9_laidReaches 58 = .ok (.iload_n 1, 1) := by decide +kernel
theorem dX9_laidReaches_59 : decode cX9_laidReaches 59 = .ok (.iaload, 1) := by decide +kernel
theorem dX9_laidReaches_60 : decode cX9_laidReaches 60 = .ok (.i2l, 1) := by decide +kernel
theorem dX9_laidReaches_61 : decode cX9_laidReaches 61 = .ok (.lsub, 1) := by decide +kernel
theorem dX9_laidReaches_62 : decode cX9_laidReaches 62 = .ok (.lcmp, 1) := by decide +kernel
theorem dX9_laidReaches_63 : decode cX9_laidReaches 63 = .ok (.ifCond .gt 7, 3) := by decide +kernel
theorem dX9_laidReaches_66 : decode cX9_laidReaches 66 = .ok (.iconst 1, 1) := by decide +kernel
theorem dX9_laidReaches_67 : decode cX9_laidReaches 67 = .ok (.goto 4, 3) := by decide +kernel
theorem dX9_laidReaches_70 : decode cX9_laidReaches 70 = .ok (.iconst 0, 1) := by decide +kernel
theorem dX9_laidReaches_71 : decode cX9_laidReaches 71 = .ok (.ireturn, 1) := by decide +kernel
theorem dX9_way_0 : decode cX9_way 0 = .ok (.lload 4, 2) := by decide +kernel
theorem dX9_way_2 : decode cX9_way 2 = .ok (.lload_n 2, 1) := by decide +kernel
theorem dX9_way_3 : decode cX9_way 3 = .ok (.lsub, 1) := by decide +kernel
theorem dX9_way_4 : decode cX9_way 4 = .ok (.aload_n 0, 1) := by decide +kernel
theorem dX9_way_5 : decode cX9_way 5 = .ok (.getfield 75, 3) := by decide +kernel
theorem dX9_way_8 : decode cX9_way 8 = .ok (.iload_n 1, 1) := by decide +kernel
theorem dX9_way_9 : decode cX9_way 9 = .ok (.iaload, 1) := by decide +kernel
theorem dX9_way_10 : decode cX9_way 10 = .ok (.i2l, 1) := by decide +kernel
theorem dX9_way_11 : decode cX9_way 11 = .ok (.ldiv, 1) := by decide +kernel
theorem dX9_way_12 : decode cX9_way 12 = .ok (.lconst 1, 1) := by decide +kernel
theorem dX9_way_13 : decode cX9_way 13 = .ok (.aload_n 0, 1) := by decide +kernel
theorem dX9_way_14 : decode cX9_way 14 = .ok (.getfield 78, 3) := by decide +kernel
theorem dX9_way_17 : decode cX9_way 17 = .ok (.iload_n 1, 1) := by decide +kernel
theorem dX9_way_18 : decode cX9_way 18 = .ok (.iaload, 1) := by decide +kernel
theorem dX9_way_19 : decode cX9_way 19 = .ok (.lshl, 1) := by decide +kernel
theorem dX9_way_20 : decode cX9_way 20 = .ok (.lconst 1, 1) := by decide +kernel
theorem dX9_way_21 : decode cX9_way 21 = .ok (.lsub, 1) := by decide +kernel
theorem dX9_way_22 : decode cX9_way 22 = .ok (.land, 1) := by decide +kernel
theorem dX9_way_23 : decode cX9_way 23 = .ok (.l2i, 1) := by decide +kernel
theorem dX9_way_24 : decode cX9_way 24 = .ok (.ireturn, 1) := by decide +kernel
theorem dX9_encoded_0 : decode cX9_encoded 0 = .ok (.aload_n 0, 1) := by decide +kernel
theorem dX9_encoded_1 : decode cX9_encoded 1 = .ok (.getfield 187, 3) := by decide +kernel
theorem dX9_encoded_4 : decode cX9_encoded 4 = .ok (.ifCond .ne 5, 3) := by decide +kernel
theorem dX9_encoded_7 : decode cX9_encoded 7 = .ok (.iconst (-1), 1) := by decide +kernel
theorem dX9_encoded_8 : decode cX9_encoded 8 = .ok (.ireturn, 1) := by decide +kernel
theorem dX9_encoded_9 : decode cX9_encoded 9 = .ok (.iload_n 1, 1) := by decide +kernel
theorem dX9_encoded_10 : decode cX9_encoded 10 = .ok (.ifCond .ne 80, 3) := by decide +kernel
theorem dX9_encoded_13 : decode cX9_encoded 13 = .ok (.iload_n 2, 1) := by decide +kernel
theorem dX9_encoded_14 : decode cX9_encoded 14 = .ok (.iconst 0, 1) := by decide +kernel
theorem dX9_encoded_15 : decode cX9_encoded 15 = .ok (.aload_n 0, 1) := by decide +kernel
theorem dX9_encoded_16 : decode cX9_encoded 16 = .ok (.getfield 196, 3) := by decide +kernel
theorem dX9_encoded_19 : decode cX9_encoded 19 = .ok (.iconst 1, 1) := by decide +kernel
theorem dX9_encoded_20 : decode cX9_encoded 20 = .ok (.isub, 1) := by decide +kernel
theorem dX9_encoded_21 : decode cX9_encoded 21 = .ok (.invokestatic 110, 3) := by decide +kernel
theorem dX9_encoded_24 : decode cX9_encoded 24 = .ok (.ifCond .eq 66, 3) := by decide +kernel
theorem dX9_encoded_27 : decode cX9_encoded 27 = .ok (.aload_n 0, 1) := by decide +kernel
theorem dX9_encoded_28 : decode cX9_encoded 28 = .ok (.getfield 69, 3) := by decide +kernel
theorem dX9_encoded_31 : decode cX9_encoded 31 = .ok (.iload_n 2, 1) := by decide +kernel
theorem dX9_encoded_32 : decode cX9_encoded 32 = .ok (.iaload, 1) := by decide +kernel
theorem dX9_encoded_33 : decode cX9_encoded 33 = .ok (.iconst 2, 1) := by decide +kernel
theorem dX9_encoded_34 : decode cX9_encoded 34 = .ok (.if_icmp .ne 5, 3) := by decide +kernel
theorem dX9_encoded_37 : decode cX9_encoded 37 = .ok (.iconst (-1), 1) := by decide +kernel
theorem dX9_encoded_38 : decode cX9_encoded 38 = .ok (.ireturn, 1) := by decide +kernel
theorem dX9_encoded_39 : decode cX9_encoded 39 = .ok (.aload_n 0, 1) := by decide +kernel
theorem dX9_encoded_40 : decode cX9_encoded 40 = .ok (.aload_n 0, 1) := by decide +kernel
theorem dX9_encoded_41 : decode cX9_encoded 41 = .ok (.getfield 63, 3) := by decide +kernel
theorem dX9_encoded_44 : decode cX9_encoded 44 = .ok (.iload_n 2, 1) := by decide +kernel
theorem dX9_encoded_45 : decode cX9_encoded 45 = .ok (.iaload, 1) := by decide +kernel
theorem dX9_encoded_46 : decode cX9_encoded 46 = .ok (.aload_n 0, 1) := by decide +kernel
theorem dX9_encoded_47 : decode cX9_encoded 47 = .ok (.getfield 60, 3) := by decide +kernel
theorem dX9_encoded_50 : decode cX9_encoded 50 = .ok (.iload_n 2, 1) := by decide +kernel
theorem dX9_encoded_51 : decode cX9_encoded 51 = .ok (.laload, 1) := by decide +kernel
theorem dX9_encoded_52 : decode cX9_encoded 52 = .ok (.aload_n 0, 1) := by decide +kernel
theorem dX9_encoded_53 : decode cX9_encoded 53 = .ok (.getfield 69, 3) := by decide +kernel
theorem dX9_encoded_56 : decode cX9_encoded 56 = .ok (.iload_n 2, 1) := by decide +kernel
theorem dX9_encoded_57 : decode cX9_encoded 57 = .ok (.iaload, 1) := by decide +kernel
theorem dX9_encoded_58 : decode cX9_encoded 58 = .ok (.ifCond .ne 17, 3) := by decide +kernel
theorem dX9_encoded_61 : decode cX9_encoded 61 = .ok (.aload_n 0, 1) := by decide +kernel
theorem dX9_encoded_62 : decode cX9_encoded 62 = .ok (.getfield 57, 3) := by decide +kernel
theorem dX9_encoded_65 : decode cX9_encoded 65 = .ok (.aload_n 0, 1) := by decide +kernel
theorem dX9_encoded_66 : decode cX9_encoded 66 = .ok (.getfield 66, 3) := by decide +kernel
theorem dX9_encoded_69 : decode cX9_encoded 69 = .ok (.iload_n 2, 1) := by decide +kernel
theorem dX9_encoded_70 : decode cX9_encoded 70 = .ok (.iaload, 1) := by decide +kernel
theorem dX9_encoded_71 : decode cX9_encoded 71 = .ok (.laload, 1) := by decide +kernel
theorem dX9_encoded_72 : decode cX9_encoded 72 = .ok (.goto 14, 3) := by decide +kernel
theorem dX9_encoded_75 : decode cX9_encoded 75 = .ok (.aload_n 0, 1) := by decide +kernel
theorem dX9_encoded_76 : decode cX9_encoded 76 = .ok (.getfield 81, 3) := by decide +kernel
theorem dX9_encoded_79 : decode cX9_encoded 79 = .ok (.aload_n 0, 1) := by decide +kernel
theorem dX9_encoded_80 : decode cX9_encoded 80 = .ok (.getfield 72, 3) := by decide +kernel
theorem dX9_encoded_83 : decode cX9_encoded 83 = .ok (.iload_n 2, 1) := by decide +kernel
theorem dX9_encoded_84 : decode cX9_encoded 84 = .ok (.iaload, 1) := by decide +kernel
theorem dX9_encoded_85 : decode cX9_encoded 85 = .ok (.laload, 1) := by decide +kernel
theorem dX9_encoded_86 : decode cX9_encoded 86 = .ok (.invokevirtual 221, 3) := by decide +kernel
theorem dX9_encoded_89 : decode cX9_encoded 89 = .ok (.ireturn, 1) := by decide +kernel
theorem dX9_encoded_90 : decode cX9_encoded 90 = .ok (.iload_n 1, 1) := by decide +kernel
theorem dX9_encoded_91 : decode cX9_encoded 91 = .ok (.iconst 1, 1) := by decide +kernel
theorem dX9_encoded_92 : decode cX9_encoded 92 = .ok (.if_icmp .ne 45, 3) := by decide +kernel
theorem dX9_encoded_95 : decode cX9_encoded 95 = .ok (.iload_n 2, 1) := by decide +kernel
theorem dX9_encoded_96 : decode cX9_encoded 96 = .ok (.iconst 0, 1) := by decide +kernel
theorem dX9_encoded_97 : decode cX9_encoded 97 = .ok (.aload_n 0, 1) := by decide +kernel
theorem dX9_encoded_98 : decode cX9_encoded 98 = .ok (.getfield 180, 3) := by decide +kernel
theorem dX9_encoded_101 : decode cX9_encoded 101 = .ok (.iconst 1, 1) := by decide +kernel
theorem dX9_encoded_102 : decode cX9_encoded 102 = .ok (.isub, 1) := by decide +kernel
theorem dX9_encoded_103 : decode cX9_encoded 103 = .ok (.invokestatic 110, 3) := by decide +kernel
theorem dX9_encoded_106 : decode cX9_encoded 106 = .ok (.ifCond .eq 31, 3) := by decide +kernel
theorem dX9_encoded_109 : decode cX9_encoded 109 = .ok (.aload_n 0, 1) := by decide +kernel
theorem dX9_encoded_110 : decode cX9_encoded 110 = .ok (.aload_n 0, 1) := by decide +kernel
theorem dX9_encoded_111 : decode cX9_encoded 111 = .ok (.getfield 205, 3) := by decide +kernel
theorem dX9_encoded_114 : decode cX9_encoded 114 = .ok (.aload_n 0, 1) := by decide +kernel
theorem dX9_encoded_115 : decode cX9_encoded 115 = .ok (.getfield 81, 3) := by decide +kernel
theorem dX9_encoded_118 : decode cX9_encoded 118 = .ok (.iload_n 2, 1) := by decide +kernel
theorem dX9_encoded_119 : decode cX9_encoded 119 = .ok (.laload, 1) := by decide +kernel
theorem dX9_encoded_120 : decode cX9_encoded 120 = .ok (.aload_n 0, 1) := by decide +kernel
theorem dX9_encoded_121 : decode cX9_encoded 121 = .ok (.getfield 57, 3) := by decide +kernel
theorem dX9_encoded_124 : decode cX9_encoded 124 = .ok (.aload_n 0, 1) := by decide +kernel
theorem dX9_encoded_125 : decode cX9_encoded 125 = .ok (.getfield 87, 3) := by decide +kernel
theorem dX9_encoded_128 : decode cX9_encoded 128 = .ok (.iload_n 2, 1) := by decide +kernel
theorem dX9_encoded_129 : decode cX9_encoded 129 = .ok (.iaload, 1) := by decide +kernel
theorem dX9_encoded_130 : decode cX9_encoded 130 = .ok (.laload, 1) := by decide +kernel
theorem dX9_encoded_131 : decode cX9_encoded 131 = .ok (.invokevirtual 225, 3) := by decide +kernel
theorem dX9_encoded_134 : decode cX9_encoded 134 = .ok (.ifCond .ne 5, 3) := by decide +kernel
theorem dX9_encoded_137 : decode cX9_encoded 137 = .ok (.iconst (-1), 1) := by decide +kernel
theorem dX9_encoded_138 : decode cX9_encoded 138 = .ok (.ireturn, 1) := by decide +kernel
theorem dX9_encoded_139 : decode cX9_encoded 139 = .ok (.aload_n 0, 1) := by decide +kernel
theorem dX9_encoded_140 : decode cX9_encoded 140 = .ok (.aload_n 0, 1) := by decide +kernel
theorem dX9_encoded_141 : decode cX9_encoded 141 = .ok (.getfield 205, 3) := by decide +kernel
theorem dX9_encoded_144 : decode cX9_encoded 144 = .ok (.aload_n 0, 1) := by decide +kernel
theorem dX9_encoded_145 : decode cX9_encoded 145 = .ok (.getfield 81, 3) := by decide +kernel
theorem dX9_encoded_148 : decode cX9_encoded 148 = .ok (.iload_n 2, 1) := by decide +kernel
theorem dX9_encoded_149 : decode cX9_encoded 149 = .ok (.laload, 1) := by decide +kernel
theorem dX9_encoded_150 : decode cX9_encoded 150 = .ok (.aload_n 0, 1) := by decide +kernel
theorem dX9_encoded_151 : decode cX9_encoded 151 = .ok (.getfield 57, 3) := by decide +kernel
theorem dX9_encoded_154 : decode cX9_encoded 154 = .ok (.aload_n 0, 1) := by decide +kernel
theorem dX9_encoded_155 : decode cX9_encoded 155 = .ok (.getfield 87, 3) := by decide +kernel
theorem dX9_encoded_158 : decode cX9_encoded 158 = .ok (.iload_n 2, 1) := by decide +kernel
theorem dX9_encoded_159 : decode cX9_encoded 159 = .ok (.iaload, 1) := by decide +kernel
theorem dX9_encoded_160 : decode cX9_encoded 160 = .ok (.laload, 1) := by decide +kernel
theorem dX9_encoded_161 : decode cX9_encoded 161 = .ok (.invokevirtual 221, 3) := by decide +kernel
theorem dX9_encoded_164 : decode cX9_encoded 164 = .ok (.ireturn, 1) := by decide +kernel
theorem dX9_at_0 : decode cX9_at 0 = .ok (.aload_n 0, 1) := by decide +kernel
theorem dX9_at_1 : decode cX9_at 1 = .ok (.getfield 187, 3) := by decide +kernel
theorem dX9_at_4 : decode cX9_at 4 = .ok (.ifCond .eq 28, 3) := by decide +kernel
theorem dX9_at_7 : decode cX9_at 7 = .ok (.aload_n 0, 1) := by decide +kernel
theorem dX9_at_8 : decode cX9_at 8 = .ok (.getfield 190, 3) := by decide +kernel
theorem dX9_at_11 : decode cX9_at 11 = .ok (.ifCond .eq 21, 3) := by decide +kernel
theorem dX9_at_14 : decode cX9_at 14 = .ok (.lload_n 1, 1) := by decide +kernel
theorem dX9_at_15 : decode cX9_at 15 = .ok (.aload_n 0, 1) := by decide +kernel
theorem dX9_at_16 : decode cX9_at 16 = .ok (.getfield 199, 3) := by decide +kernel
theorem dX9_at_19 : decode cX9_at 19 = .ok (.lcmp, 1) := by decide +kernel
theorem dX9_at_20 : decode cX9_at 20 = .ok (.ifCond .lt 12, 3) := by decide +kernel
theorem dX9_at_23 : decode cX9_at 23 = .ok (.lload_n 1, 1) := by decide +kernel
theorem dX9_at_24 : decode cX9_at 24 = .ok (.aload_n 0, 1) := by decide +kernel
theorem dX9_at_25 : decode cX9_at 25 = .ok (.getfield 143, 3) := by decide +kernel
theorem dX9_at_28 : decode cX9_at 28 = .ok (.lcmp, 1) := by decide +kernel
theorem dX9_at_29 : decode cX9_at 29 = .ok (.ifCond .lt 5, 3) := by decide +kernel
theorem dX9_at_32 : decode cX9_at 32 = .ok (.iconst (-1), 1) := by decide +kernel
theorem dX9_at_33 : decode cX9_at 33 = .ok (.ireturn, 1) := by decide +kernel
theorem dX9_at_34 : decode cX9_at 34 = .ok (.iconst 0, 1) := by decide +kernel
theorem dX9_at_35 : decode cX9_at 35 = .ok (.istore_n 3, 1) := by decide +kernel
theorem dX9_at_36 : decode cX9_at 36 = .ok (.iload_n 3, 1) := by decide +kernel
theorem dX9_at_37 : decode cX9_at 37 = .ok (.aload_n 0, 1) := by decide +kernel
theorem dX9_at_38 : decode cX9_at 38 = .ok (.getfield 190, 3) := by decide +kernel
theorem dX9_at_41 : decode cX9_at 41 = .ok (.if_icmp .ge 37, 3) := by decide +kernel
theorem dX9_at_44 : decode cX9_at 44 = .ok (.lload_n 1, 1) := by decide +kernel
theorem dX9_at_45 : decode cX9_at 45 = .ok (.aload_n 0, 1) := by decide +kernel
theorem dX9_at_46 : decode cX9_at 46 = .ok (.getfield 44, 3) := by decide +kernel
theorem dX9_at_49 : decode cX9_at 49 = .ok (.iload_n 3, 1) := by decide +kernel
theorem dX9_at_50 : decode cX9_at 50 = .ok (.laload, 1) := by decide +kernel
theorem dX9_at_51 : decode cX9_at 51 = .ok (.lcmp, 1) := by decide +kernel
theorem dX9_at_52 : decode cX9_at 52 = .ok (.ifCond .lt 20, 3) := by decide +kernel
theorem dX9_at_55 : decode cX9_at 55 = .ok (.lload_n 1, 1) := by decide +kernel
theorem dX9_at_56 : decode cX9_at 56 = .ok (.aload_n 0, 1) := by decide +kernel
theorem dX9_at_57 : decode cX9_at 57 = .ok (.getfield 48, 3) := by decide +kernel
theorem dX9_at_60 : decode cX9_at 60 = .ok (.iload_n 3, 1) := by decide +kernel
theorem dX9_at_61 : decode cX9_at 61 = .ok (.laload, 1) := by decide +kernel
theorem dX9_at_62 : decode cX9_at 62 = .ok (.lcmp, 1) := by decide +kernel
theorem dX9_at_63 : decode cX9_at 63 = .ok (.ifCond .ge 9, 3) := by decide +kernel
theorem dX9_at_66 : decode cX9_at 66 = .ok (.sipush 1000, 3) := by decide +kernel
theorem dX9_at_69 : decode cX9_at 69 = .ok (.iload_n 3, 1) := by decide +kernel
theorem dX9_at_70 : decode cX9_at 70 = .ok (.iadd, 1) := by decide +kernel
theorem dX9_at_71 : decode cX9_at 71 = .ok (.ireturn, 1) := by decide +kernel
theorem dX9_at_72 : decode cX9_at 72 = .ok (.iinc 3 1, 3) := by decide +kernel
theorem dX9_at_75 : decode cX9_at 75 = .ok (.goto (-39), 3) := by decide +kernel
theorem dX9_at_78 : decode cX9_at 78 = .ok (.iconst 0, 1) := by decide +kernel
theorem dX9_at_79 : decode cX9_at 79 = .ok (.istore_n 3, 1) := by decide +kernel
theorem dX9_at_80 : decode cX9_at 80 = .ok (.iload_n 3, 1) := by decide +kernel
theorem dX9_at_81 : decode cX9_at 81 = .ok (.aload_n 0, 1) := by decide +kernel
theorem dX9_at_82 : decode cX9_at 82 = .ok (.getfield 180, 3) := by decide +kernel
theorem dX9_at_85 : decode cX9_at 85 = .ok (.if_icmp .ge 43, 3) := by decide +kernel
theorem dX9_at_88 : decode cX9_at 88 = .ok (.lload_n 1, 1) := by decide +kernel
theorem dX9_at_89 : decode cX9_at 89 = .ok (.aload_n 0, 1) := by decide +kernel
theorem dX9_at_90 : decode cX9_at 90 = .ok (.getfield 81, 3) := by decide +kernel
theorem dX9_at_93 : decode cX9_at 93 = .ok (.iload_n 3, 1) := by decide +kernel
theorem dX9_at_94 : decode cX9_at 94 = .ok (.laload, 1) := by decide +kernel
theorem dX9_at_95 : decode cX9_at 95 = .ok (.lcmp, 1) := by decide +kernel
theorem dX9_at_96 : decode cX9_at 96 = .ok (.ifCond .lt 26, 3) := by decide +kernel
theorem dX9_at_99 : decode cX9_at 99 = .ok (.lload_n 1, 1) := by decide +kernel
theorem dX9_at_100 : decode cX9_at 100 = .ok (.aload_n 0, 1) := by decide +kernel
theorem dX9_at_101 : decode cX9_at 101 = .ok (.getfield 81, 3) := by decide +kernel
theorem dX9_at_104 : decode cX9_at 104 = .ok (.iload_n 3, 1) := by decide +kernel
theorem dX9_at_105 : decode cX9_at 105 = .ok (.laload, 1) := by decide +kernel
theorem dX9_at_106 : decode cX9_at 106 = .ok (.aload_n 0, 1) := by decide +kernel
theorem dX9_at_107 : decode cX9_at 107 = .ok (.getfield 202, 3) := by decide +kernel
theorem dX9_at_110 : decode cX9_at 110 = .ok (.i2l, 1) := by decide +kernel
theorem dX9_at_111 : decode cX9_at 111 = .ok (.ladd, 1) := by decide +kernel
theorem dX9_at_112 : decode cX9_at 112 = .ok (.lcmp, 1) := by decide +kernel
theorem dX9_at_113 : decode cX9_at 113 = .ok (.ifCond .ge 9, 3) := by decide +kernel
theorem dX9_at_116 : decode cX9_at 116 = .ok (.sipush 2000, 3) := by decide +kernel
theorem dX9_at_119 : decode cX9_at 119 = .ok (.iload_n 3, 1) := by decide +kernel
theorem dX9_at_120 : decode cX9_at 120 = .ok (.iadd, 1) := by decide +kernel
theorem dX9_at_121 : decode cX9_at 121 = .ok (.ireturn, 1) := by decide +kernel
theorem dX9_at_122 : decode cX9_at 122 = .ok (.iinc 3 1, 3) := by decide +kernel
theorem dX9_at_125 : decode cX9_at 125 = .ok (.goto (-45), 3) := by decide +kernel
theorem dX9_at_128 : decode cX9_at 128 = .ok (.iconst 0, 1) := by decide +kernel
theorem dX9_at_129 : decode cX9_at 129 = .ok (.ireturn, 1) := by decide +kernel
theorem dX9_goes_0 : decode cX9_goes 0 = .ok (.iload 4, 2) := by decide +kernel
theorem dX9_goes_2 : decode cX9_goes 2 = .ok (.i2l, 1) := by decide +kernel
theorem dX9_goes_3 : decode cX9_goes 3 = .ok (.lstore 5, 2) := by decide +kernel
theorem dX9_goes_5 : decode cX9_goes 5 = .ok (.lload 5, 2) := by decide +kernel
theorem dX9_goes_7 : decode cX9_goes 7 = .ok (.aload_n 0, 1) := by decide +kernel
theorem dX9_goes_8 : decode cX9_goes 8 = .ok (.getfield 78, 3) := by decide +kernel
theorem dX9_goes_11 : decode cX9_goes 11 = .ok (.iload_n 1, 1) := by decide +kernel
theorem dX9_goes_12 : decode cX9_goes 12 = .ok (.iaload, 1) := by decide +kernel
theorem dX9_goes_13 : decode cX9_goes 13 = .ok (.iconst 1, 1) := by decide +kernel
theorem dX9_goes_14 : decode cX9_goes 14 = .ok (.isub, 1) := by decide +kernel
theorem dX9_goes_15 : decode cX9_goes 15 = .ok (.lshr, 1) := by decide +kernel
theorem dX9_goes_16 : decode cX9_goes 16 = .ok (.lconst 1, 1) := by decide +kernel
theorem dX9_goes_17 : decode cX9_goes 17 = .ok (.land, 1) := by decide +kernel
theorem dX9_goes_18 : decode cX9_goes 18 = .ok (.lconst 1, 1) := by decide +kernel
theorem dX9_goes_19 : decode cX9_goes 19 = .ok (.lcmp, 1) := by decide +kernel
theorem dX9_goes_20 : decode cX9_goes 20 = .ok (.ifCond .ne 16, 3) := by decide +kernel
theorem dX9_goes_23 : decode cX9_goes 23 = .ok (.lload 5, 2) := by decide +kernel
theorem dX9_goes_25 : decode cX9_goes 25 = .ok (.lconst 1, 1) := by decide +kernel
theorem dX9_goes_26 : decode cX9_goes 26 = .ok (.aload_n 0, 1) := by decide +kernel
theorem dX9_goes_27 : decode cX9_goes 27 = .ok (.getfield 78, 3) := by decide +kernel
theorem dX9_goes_30 : decode cX9_goes 30 = .ok (.iload_n 1, 1) := by decide +kernel
theorem dX9_goes_31 : decode cX9_goes 31 = .ok (.iaload, 1) := by decide +kernel
theorem dX9_goes_32 : decode cX9_goes 32 = .ok (.lshl, 1) := by decide +kernel
theorem dX9_goes_33 : decode cX9_goes 33 = .ok (.lsub, 1) := by decide +kernel
theorem dX9_goes_34 : decode cX9_goes 34 = .ok (.lstore 5, 2) := by decide +kernel
theorem dX9_goes_36 : decode cX9_goes 36 = .ok (.lload_n 2, 1) := by decide +kernel
theorem dX9_goes_37 : decode cX9_goes 37 = .ok (.lload 5, 2) := by decide +kernel
theorem dX9_goes_39 : decode cX9_goes 39 = .ok (.aload_n 0, 1) := by decide +kernel
theorem dX9_goes_40 : decode cX9_goes 40 = .ok (.getfield 75, 3) := by decide +kernel
theorem dX9_goes_43 : decode cX9_goes 43 = .ok (.iload_n 1, 1) := by decide +kernel
theorem dX9_goes_44 : decode cX9_goes 44 = .ok (.iaload, 1) := by decide +kernel
theorem dX9_goes_45 : decode cX9_goes 45 = .ok (.i2l, 1) := by decide +kernel
theorem dX9_goes_46 : decode cX9_goes 46 = .ok (.lmul, 1) := by decide +kernel
theorem dX9_goes_47 : decode cX9_goes 47 = .ok (.ladd, 1) := by decide +kernel
theorem dX9_goes_48 : decode cX9_goes 48 = .ok (.lreturn, 1) := by decide +kernel
theorem dX9_walk_0 : decode cX9_walk 0 = .ok (.aload_n 0, 1) := by decide +kernel
theorem dX9_walk_1 : decode cX9_walk 1 = .ok (.iconst 0, 1) := by decide +kernel
theorem dX9_walk_2 : decode cX9_walk 2 = .ok (.iload_n 1, 1) := by decide +kernel
theorem dX9_walk_3 : decode cX9_walk 3 = .ok (.invokevirtual 228, 3) := by decide +kernel
theorem dX9_walk_6 : decode cX9_walk 6 = .ok (.istore_n 2, 1) := by decide +kernel
theorem dX9_walk_7 : decode cX9_walk 7 = .ok (.iload_n 2, 1) := by decide +kernel
theorem dX9_walk_8 : decode cX9_walk 8 = .ok (.iconst (-1), 1) := by decide +kernel
theorem dX9_walk_9 : decode cX9_walk 9 = .ok (.if_icmp .ne 7, 3) := by decide +kernel
theorem dX9_walk_12 : decode cX9_walk 12 = .ok (.ldc2_w 219, 3) := by decide +kernel
theorem dX9_walk_15 : decode cX9_walk 15 = .ok (.lreturn, 1) := by decide +kernel
theorem dX9_walk_16 : decode cX9_walk 16 = .ok (.aload_n 0, 1) := by decide +kernel
theorem dX9_walk_17 : decode cX9_walk 17 = .ok (.aload_n 0, 1) := by decide +kernel
theorem dX9_walk_18 : decode cX9_walk 18 = .ok (.getfield 63, 3) := by decide +kernel
theorem dX9_walk_21 : decode cX9_walk 21 = .ok (.iload_n 1, 1) := by decide +kernel
theorem dX9_walk_22 : decode cX9_walk 22 = .ok (.iaload, 1) := by decide +kernel
theorem dX9_walk_23 : decode cX9_walk 23 = .ok (.aload_n 0, 1) := by decide +kernel
theorem dX9_walk_24 : decode cX9_walk 24 = .ok (.getfield 60, 3) := by decide +kernel
theorem dX9_walk_27 : decode cX9_walk 27 = .ok (.iload_n 1, 1) := by decide +kernel
theorem dX9_walk_28 : decode cX9_walk 28 = .ok (.laload, 1) := by decide +kernel
theorem dX9_walk_29 : decode cX9_walk 29 = .ok (.iload_n 2, 1) := by decide +kernel
theorem dX9_walk_30 : decode cX9_walk 30 = .ok (.invokevirtual 231, 3) := by decide +kernel
theorem dX9_walk_33 : decode cX9_walk 33 = .ok (.lstore_n 3, 1) := by decide +kernel
theorem dX9_walk_34 : decode cX9_walk 34 = .ok (.aload_n 0, 1) := by decide +kernel
theorem dX9_walk_35 : decode cX9_walk 35 = .ok (.getfield 69, 3) := by decide +kernel
theorem dX9_walk_38 : decode cX9_walk 38 = .ok (.iload_n 1, 1) := by decide +kernel
theorem dX9_walk_39 : decode cX9_walk 39 = .ok (.iaload, 1) := by decide +kernel
theorem dX9_walk_40 : decode cX9_walk 40 = .ok (.ifCond .ne 7, 3) := by decide +kernel
theorem dX9_walk_43 : decode cX9_walk 43 = .ok (.lload_n 3, 1) := by decide +kernel
theorem dX9_walk_44 : decode cX9_walk 44 = .ok (.goto 23, 3) := by decide +kernel
theorem dX9_walk_47 : decode cX9_walk 47 = .ok (.aload_n 0, 1) := by decide +kernel
theorem dX9_walk_48 : decode cX9_walk 48 = .ok (.aload_n 0, 1) := by decide +kernel
theorem dX9_walk_49 : decode cX9_walk 49 = .ok (.getfield 205, 3) := by decide +kernel
theorem dX9_walk_52 : decode cX9_walk 52 = .ok (.lload_n 3, 1) := by decide +kernel
theorem dX9_walk_53 : decode cX9_walk 53 = .ok (.aload_n 0, 1) := by decide +kernel
theorem dX9_walk_54 : decode cX9_walk 54 = .ok (.iconst 1, 1) := by decide +kernel
theorem dX9_walk_55 : decode cX9_walk 55 = .ok (.aload_n 0, 1) := by decide +kernel
theorem dX9_walk_56 : decode cX9_walk 56 = .ok (.getfield 72, 3) := by decide +kernel
theorem dX9_walk_59 : decode cX9_walk 59 = .ok (.iload_n 1, 1) := by decide +kernel
theorem dX9_walk_60 : decode cX9_walk 60 = .ok (.iaload, 1) := by decide +kernel
theorem dX9_walk_61 : decode cX9_walk 61 = .ok (.invokevirtual 228, 3) := by decide +kernel
theorem dX9_walk_64 : decode cX9_walk 64 = .ok (.invokevirtual 231, 3) := by decide +kernel
theorem dX9_walk_67 : decode cX9_walk 67 = .ok (.lreturn, 1) := by decide +kernel
theorem dX9_far_0 : decode cX9_far 0 = .ok (.aload_n 0, 1) := by decide +kernel
theorem dX9_far_1 : decode cX9_far 1 = .ok (.getfield 136, 3) := by decide +kernel
theorem dX9_far_4 : decode cX9_far 4 = .ok (.i2l, 1) := by decide +kernel
theorem dX9_far_5 : decode cX9_far 5 = .ok (.lstore_n 1, 1) := by decide +kernel
theorem dX9_far_6 : decode cX9_far 6 = .ok (.iconst 0, 1) := by decide +kernel
theorem dX9_far_7 : decode cX9_far 7 = .ok (.istore_n 3, 1) := by decide +kernel
theorem dX9_far_8 : decode cX9_far 8 = .ok (.iload_n 3, 1) := by decide +kernel
theorem dX9_far_9 : decode cX9_far 9 = .ok (.aload_n 0, 1) := by decide +kernel
theorem dX9_far_10 : decode cX9_far 10 = .ok (.getfield 105, 3) := by decide +kernel
theorem dX9_far_13 : decode cX9_far 13 = .ok (.if_icmp .ge 37, 3) := by decide +kernel
theorem dX9_far_16 : decode cX9_far 16 = .ok (.lload_n 1, 1) := by decide +kernel
theorem dX9_far_17 : decode cX9_far 17 = .ok (.aload_n 0, 1) := by decide +kernel
theorem dX9_far_18 : decode cX9_far 18 = .ok (.getfield 13, 3) := by decide +kernel
theorem dX9_far_21 : decode cX9_far 21 = .ok (.iload_n 3, 1) := by decide +kernel
theorem dX9_far_22 : decode cX9_far 22 = .ok (.iaload, 1) := by decide +kernel
theorem dX9_far_23 : decode cX9_far 23 = .ok (.invokestatic 139, 3) := by decide +kernel
theorem dX9_far_26 : decode cX9_far 26 = .ok (.lstore_n 1, 1) := by decide +kernel
theorem dX9_far_27 : decode cX9_far 27 = .ok (.aload_n 0, 1) := by decide +kernel
theorem dX9_far_28 : decode cX9_far 28 = .ok (.getfield 102, 3) := by decide +kernel
theorem dX9_far_31 : decode cX9_far 31 = .ok (.iload_n 3, 1) := by decide +kernel
theorem dX9_far_32 : decode cX9_far 32 = .ok (.lload_n 1, 1) := by decide +kernel
theorem dX9_far_33 : decode cX9_far 33 = .ok (.lastore, 1) := by decide +kernel
theorem dX9_far_34 : decode cX9_far 34 = .ok (.lload_n 1, 1) := by decide +kernel
theorem dX9_far_35 : decode cX9_far 35 = .ok (.aload_n 0, 1) := by decide +kernel
theorem dX9_far_36 : decode cX9_far 36 = .ok (.getfield 7, 3) := by decide +kernel
theorem dX9_far_39 : decode cX9_far 39 = .ok (.iload_n 3, 1) := by decide +kernel
theorem dX9_far_40 : decode cX9_far 40 = .ok (.iaload, 1) := by decide +kernel
theorem dX9_far_41 : decode cX9_far 41 = .ok (.i2l, 1) := by decide +kernel
theorem dX9_far_42 : decode cX9_far 42 = .ok (.ladd, 1) := by decide +kernel
theorem dX9_far_43 : decode cX9_far 43 = .ok (.lstore_n 1, 1) := by decide +kernel
theorem dX9_far_44 : decode cX9_far 44 = .ok (.iinc 3 1, 3) := by decide +kernel
theorem dX9_far_47 : decode cX9_far 47 = .ok (.goto (-39), 3) := by decide +kernel
theorem dX9_far_50 : decode cX9_far 50 = .ok (.iconst 0, 1) := by decide +kernel
theorem dX9_far_51 : decode cX9_far 51 = .ok (.istore_n 3, 1) := by decide +kernel
theorem dX9_far_52 : decode cX9_far 52 = .ok (.iconst 0, 1) := by decide +kernel
theorem dX9_far_53 : decode cX9_far 53 = .ok (.istore 4, 2) := by decide +kernel
theorem dX9_far_55 : decode cX9_far 55 = .ok (.iload 4, 2) := by decide +kernel
theorem dX9_far_57 : decode cX9_far 57 = .ok (.aload_n 0, 1) := by decide +kernel
theorem dX9_far_58 : decode cX9_far 58 = .ok (.getfield 124, 3) := by decide +kernel
theorem dX9_far_61 : decode cX9_far 61 = .ok (.if_icmp .ge 82, 3) := by decide +kernel
theorem dX9_far_64 : decode cX9_far 64 = .ok (.aload_n 0, 1) := by decide +kernel
theorem dX9_far_65 : decode cX9_far 65 = .ok (.getfield 35, 3) := by decide +kernel
theorem dX9_far_68 : decode cX9_far 68 = .ok (.iload 4, 2) := by decide +kernel
theorem dX9_far_70 : decode cX9_far 70 = .ok (.iaload, 1) := by decide +kernel
theorem dX9_far_71 : decode cX9_far 71 = .ok (.istore 5, 2) := by decide +kernel
theorem dX9_far_73 : decode cX9_far 73 = .ok (.iload_n 3, 1) := by decide +kernel
theorem dX9_far_74 : decode cX9_far 74 = .ok (.aload_n 0, 1) := by decide +kernel
theorem dX9_far_75 : decode cX9_far 75 = .ok (.aload_n 0, 1) := by decide +kernel
theorem dX9_far_76 : decode cX9_far 76 = .ok (.getfield 32, 3) := by decide +kernel
theorem dX9_far_79 : decode cX9_far 79 = .ok (.iload 4, 2) := by decide +kernel
theorem dX9_far_81 : decode cX9_far 81 = .ok (.iaload, 1) := by decide +kernel
theorem dX9_far_82 : decode cX9_far 82 = .ok (.aload_n 0, 1) := by decide +kernel
theorem dX9_far_83 : decode cX9_far 83 = .ok (.getfield 102, 3) := by decide +kernel
theorem dX9_far_86 : decode cX9_far 86 = .ok (.aload_n 0, 1) := by decide +kernel
theorem dX9_far_87 : decode cX9_far 87 = .ok (.getfield 26, 3) := by decide +kernel
theorem dX9_far_90 : decode cX9_far 90 = .ok (.iload 4, 2) := by decide +kernel
theorem dX9_far_92 : decode cX9_far 92 = .ok (.iaload, 1) := by decide +kernel
theorem dX9_far_93 : decode cX9_far 93 = .ok (.laload, 1) := by decide +kernel
theorem dX9_far_94 : decode cX9_far 94 = .ok (.aload_n 0, 1) := by decide +kernel
theorem dX9_far_95 : decode cX9_far 95 = .ok (.getfield 29, 3) := by decide +kernel
theorem dX9_far_98 : decode cX9_far 98 = .ok (.iload 4, 2) := by decide +kernel
theorem dX9_far_100 : decode cX9_far 100 = .ok (.iaload, 1) := by decide +kernel
theorem dX9_far_101 : decode cX9_far 101 = .ok (.i2l, 1) := by decide +kernel
theorem dX9_far_102 : decode cX9_far 102 = .ok (.ladd, 1) := by decide +kernel
theorem dX9_far_103 : decode cX9_far 103 = .ok (.aload_n 0, 1) := by decide +kernel
theorem dX9_far_104 : decode cX9_far 104 = .ok (.getfield 102, 3) := by decide +kernel
theorem dX9_far_107 : decode cX9_far 107 = .ok (.aload_n 0, 1) := by decide +kernel
theorem dX9_far_108 : decode cX9_far 108 = .ok (.getfield 20, 3) := by decide +kernel
theorem dX9_far_111 : decode cX9_far 111 = .ok (.iload 5, 2) := by decide +kernel
theorem dX9_far_113 : decode cX9_far 113 = .ok (.iaload, 1) := by decide +kernel
theorem dX9_far_114 : decode cX9_far 114 = .ok (.laload, 1) := by decide +kernel
theorem dX9_far_115 : decode cX9_far 115 = .ok (.aload_n 0, 1) := by decide +kernel
theorem dX9_far_116 : decode cX9_far 116 = .ok (.getfield 23, 3) := by decide +kernel
theorem dX9_far_119 : decode cX9_far 119 = .ok (.iload 5, 2) := by decide +kernel
theorem dX9_far_121 : decode cX9_far 121 = .ok (.iaload, 1) := by decide +kernel
theorem dX9_far_122 : decode cX9_far 122 = .ok (.i2l, 1) := by decide +kernel
theorem dX9_far_123 : decode cX9_far 123 = .ok (.ladd, 1) := by decide +kernel
theorem dX9_far_124 : decode cX9_far 124 = .ok (.invokevirtual 147, 3) := by decide +kernel
theorem dX9_far_127 : decode cX9_far 127 = .ok (.ifCond .eq 7, 3) := by decide +kernel
theorem dX9_far_130 : decode cX9_far 130 = .ok (.iconst 0, 1) := by decide +kernel
theorem dX9_far_131 : decode cX9_far 131 = .ok (.goto 4, 3) := by decide +kernel
theorem dX9_far_134 : decode cX9_far 134 = .ok (.iconst 1, 1) := by decide +kernel
theorem dX9_far_135 : decode cX9_far 135 = .ok (.iadd, 1) := by decide +kernel
theorem dX9_far_136 : decode cX9_far 136 = .ok (.istore_n 3, 1) := by decide +kernel
theorem dX9_far_137 : decode cX9_far 137 = .ok (.iinc 4 1, 3) := by decide +kernel
theorem dX9_far_140 : decode cX9_far 140 = .ok (.goto (-85), 3) := by decide +kernel
theorem dX9_far_143 : decode cX9_far 143 = .ok (.iload_n 3, 1) := by decide +kernel
theorem dX9_far_144 : decode cX9_far 144 = .ok (.ireturn, 1) := by decide +kernel
theorem dJ9_abs_067f4_0 : decode cJ9_abs_067f4 0 = .ok (.lload_n 0, 1) := by decide +kernel
theorem dJ9_abs_067f4_1 : decode cJ9_abs_067f4 1 = .ok (.lconst 0, 1) := by decide +kernel
theorem dJ9_abs_067f4_2 : decode cJ9_abs_067f4 2 = .ok (.lcmp, 1) := by decide +kernel
theorem dJ9_abs_067f4_3 : decode cJ9_abs_067f4 3 = .ok (.ifCond .ge 8, 3) := by decide +kernel
theorem dJ9_abs_067f4_6 : decode cJ9_abs_067f4 6 = .ok (.lload_n 0, 1) := by decide +kernel
theorem dJ9_abs_067f4_7 : decode cJ9_abs_067f4 7 = .ok (.lneg, 1) := by decide +kernel
theorem dJ9_abs_067f4_8 : decode cJ9_abs_067f4 8 = .ok (.goto 4, 3) := by decide +kernel
theorem dJ9_abs_067f4_11 : decode cJ9_abs_067f4 11 = .ok (.lload_n 0, 1) := by decide +kernel
theorem dJ9_abs_067f4_12 : decode cJ9_abs_067f4 12 = .ok (.lreturn, 1) := by decide +kernel
theorem dJ9_max_7cf53_0 : decode cJ9_max_7cf53 0 = .ok (.iload_n 0, 1) := by decide +kernel
theorem dJ9_max_7cf53_1 : decode cJ9_max_7cf53 1 = .ok (.iload_n 1, 1) := by decide +kernel
theorem dJ9_max_7cf53_2 : decode cJ9_max_7cf53 2 = .ok (.if_icmp .lt 7, 3) := by decide +kernel
theorem dJ9_max_7cf53_5 : decode cJ9_max_7cf53 5 = .ok (.iload_n 0, 1) := by decide +kernel
theorem dJ9_max_7cf53_6 : decode cJ9_max_7cf53 6 = .ok (.goto 4, 3) := by decide +kernel
theorem dJ9_max_7cf53_9 : decode cJ9_max_7cf53 9 = .ok (.iload_n 1, 1) := by decide +kernel
theorem dJ9_max_7cf53_10 : decode cJ9_max_7cf53 10 = .ok (.ireturn, 1) := by decide +kernel
theorem dJ9_min_7cf53_0 : decode cJ9_min_7cf53 0 = .ok (.iload_n 0, 1) := by decide +kernel
theorem dJ9_min_7cf53_1 : decode cJ9_min_7cf53 1 = .ok (.iload_n 1, 1) := by decide +kernel
theorem dJ9_min_7cf53_2 : decode cJ9_min_7cf53 2 = .ok (.if_icmp .gt 7, 3) := by decide +kernel
theorem dJ9_min_7cf53_5 : decode cJ9_min_7cf53 5 = .ok (.iload_n 0, 1) := by decide +kernel
theorem dJ9_min_7cf53_6 : decode cJ9_min_7cf53 6 = .ok (.goto 4, 3) := by decide +kernel
theorem dJ9_min_7cf53_9 : decode cJ9_min_7cf53 9 = .ok (.iload_n 1, 1) := by decide +kernel
theorem dJ9_min_7cf53_10 : decode cJ9_min_7cf53 10 = .ok (.ireturn, 1) := by decide +kernel
theorem dJ7_fill_53178_0 : decode cJ7_fill_53178 0 = .ok (.iconst 0, 1) := by decide +kernel
theorem dJ7_fill_53178_1 : decode cJ7_fill_53178 1 = .ok (.istore_n 2, 1) := by decide +kernel
theorem dJ7_fill_53178_2 : decode cJ7_fill_53178 2 = .ok (.aload_n 0, 1) := by decide +kernel
theorem dJ7_fill_53178_3 : decode cJ7_fill_53178 3 = .ok (.arraylength, 1) := by decide +kernel
theorem dJ7_fill_53178_4 : decode cJ7_fill_53178 4 = .ok (.istore_n 3, 1) := by decide +kernel
theorem dJ7_fill_53178_5 : decode cJ7_fill_53178 5 = .ok (.iload_n 2, 1) := by decide +kernel
theorem dJ7_fill_53178_6 : decode cJ7_fill_53178 6 = .ok (.iload_n 3, 1) := by decide +kernel
theorem dJ7_fill_53178_7 : decode cJ7_fill_53178 7 = .ok (.if_icmp .ge 13, 3) := by decide +kernel
theorem dJ7_fill_53178_10 : decode cJ7_fill_53178 10 = .ok (.aload_n 0, 1) := by decide +kernel
theorem dJ7_fill_53178_11 : decode cJ7_fill_53178 11 = .ok (.iload_n 2, 1) := by decide +kernel
theorem dJ7_fill_53178_12 : decode cJ7_fill_53178 12 = .ok (.iload_n 1, 1) := by decide +kernel
theorem dJ7_fill_53178_13 : decode cJ7_fill_53178 13 = .ok (.iastore, 1) := by decide +kernel
theorem dJ7_fill_53178_14 : decode cJ7_fill_53178 14 = .ok (.iinc 2 1, 3) := by decide +kernel
theorem dJ7_fill_53178_17 : decode cJ7_fill_53178 17 = .ok (.goto (-12), 3) := by decide +kernel
theorem dJ7_fill_53178_20 : decode cJ7_fill_53178 20 = .ok (.return_, 1) := by decide +kernel
theorem dJ7_copyOf_59c91_0 : decode cJ7_copyOf_59c91 0 = .ok (.iload_n 1, 1) := by decide +kernel
theorem dJ7_copyOf_59c91_1 : decode cJ7_copyOf_59c91 1 = .ok (.aload_n 0, 1) := by decide +kernel
theorem dJ7_copyOf_59c91_2 : decode cJ7_copyOf_59c91 2 = .ok (.arraylength, 1) := by decide +kernel
theorem dJ7_copyOf_59c91_3 : decode cJ7_copyOf_59c91 3 = .ok (.if_icmp .ne 11, 3) := by decide +kernel
theorem dJ7_copyOf_59c91_6 : decode cJ7_copyOf_59c91 6 = .ok (.aload_n 0, 1) := by decide +kernel
theorem dJ7_copyOf_59c91_7 : decode cJ7_copyOf_59c91 7 = .ok (.invokevirtual 316, 3) := by decide +kernel
theorem dJ7_copyOf_59c91_10 : decode cJ7_copyOf_59c91 10 = .ok (.checkcast 317, 3) := by decide +kernel
theorem dJ7_copyOf_59c91_13 : decode cJ7_copyOf_59c91 13 = .ok (.areturn, 1) := by decide +kernel
theorem dJ7_copyOf_59c91_14 : decode cJ7_copyOf_59c91 14 = .ok (.iload_n 1, 1) := by decide +kernel
theorem dJ7_copyOf_59c91_15 : decode cJ7_copyOf_59c91 15 = .ok (.newarray .int, 2) := by decide +kernel
theorem dJ7_copyOf_59c91_17 : decode cJ7_copyOf_59c91 17 = .ok (.astore_n 2, 1) := by decide +kernel
theorem dJ7_copyOf_59c91_18 : decode cJ7_copyOf_59c91 18 = .ok (.aload_n 0, 1) := by decide +kernel
theorem dJ7_copyOf_59c91_19 : decode cJ7_copyOf_59c91 19 = .ok (.iconst 0, 1) := by decide +kernel
theorem dJ7_copyOf_59c91_20 : decode cJ7_copyOf_59c91 20 = .ok (.aload_n 2, 1) := by decide +kernel
theorem dJ7_copyOf_59c91_21 : decode cJ7_copyOf_59c91 21 = .ok (.iconst 0, 1) := by decide +kernel
theorem dJ7_copyOf_59c91_22 : decode cJ7_copyOf_59c91 22 = .ok (.aload_n 0, 1) := by decide +kernel
theorem dJ7_copyOf_59c91_23 : decode cJ7_copyOf_59c91 23 = .ok (.arraylength, 1) := by decide +kernel
theorem dJ7_copyOf_59c91_24 : decode cJ7_copyOf_59c91 24 = .ok (.iload_n 1, 1) := by decide +kernel
theorem dJ7_copyOf_59c91_25 : decode cJ7_copyOf_59c91 25 = .ok (.invokestatic 304, 3) := by decide +kernel
theorem dJ7_copyOf_59c91_28 : decode cJ7_copyOf_59c91 28 = .ok (.invokestatic 150, 3) := by decide +kernel
theorem dJ7_copyOf_59c91_31 : decode cJ7_copyOf_59c91 31 = .ok (.aload_n 2, 1) := by decide +kernel
theorem dJ7_copyOf_59c91_32 : decode cJ7_copyOf_59c91 32 = .ok (.areturn, 1) := by decide +kernel
theorem dJ7_copyOf_c38d5_0 : decode cJ7_copyOf_c38d5 0 = .ok (.iload_n 1, 1) := by decide +kernel
theorem dJ7_copyOf_c38d5_1 : decode cJ7_copyOf_c38d5 1 = .ok (.aload_n 0, 1) := by decide +kernel
theorem dJ7_copyOf_c38d5_2 : decode cJ7_copyOf_c38d5 2 = .ok (.arraylength, 1) := by decide +kernel
theorem dJ7_copyOf_c38d5_3 : decode cJ7_copyOf_c38d5 3 = .ok (.if_icmp .ne 11, 3) := by decide +kernel
theorem dJ7_copyOf_c38d5_6 : decode cJ7_copyOf_c38d5 6 = .ok (.aload_n 0, 1) := by decide +kernel
theorem dJ7_copyOf_c38d5_7 : decode cJ7_copyOf_c38d5 7 = .ok (.invokevirtual 319, 3) := by decide +kernel
theorem dJ7_copyOf_c38d5_10 : decode cJ7_copyOf_c38d5 10 = .ok (.checkcast 320, 3) := by decide +kernel
theorem dJ7_copyOf_c38d5_13 : decode cJ7_copyOf_c38d5 13 = .ok (.areturn, 1) := by decide +kernel
theorem dJ7_copyOf_c38d5_14 : decode cJ7_copyOf_c38d5 14 = .ok (.iload_n 1, 1) := by decide +kernel
theorem dJ7_copyOf_c38d5_15 : decode cJ7_copyOf_c38d5 15 = .ok (.newarray .long, 2) := by decide +kernel
theorem dJ7_copyOf_c38d5_17 : decode cJ7_copyOf_c38d5 17 = .ok (.astore_n 2, 1) := by decide +kernel
theorem dJ7_copyOf_c38d5_18 : decode cJ7_copyOf_c38d5 18 = .ok (.aload_n 0, 1) := by decide +kernel
theorem dJ7_copyOf_c38d5_19 : decode cJ7_copyOf_c38d5 19 = .ok (.iconst 0, 1) := by decide +kernel
theorem dJ7_copyOf_c38d5_20 : decode cJ7_copyOf_c38d5 20 = .ok (.aload_n 2, 1) := by decide +kernel
theorem dJ7_copyOf_c38d5_21 : decode cJ7_copyOf_c38d5 21 = .ok (.iconst 0, 1) := by decide +kernel
theorem dJ7_copyOf_c38d5_22 : decode cJ7_copyOf_c38d5 22 = .ok (.aload_n 0, 1) := by decide +kernel
theorem dJ7_copyOf_c38d5_23 : decode cJ7_copyOf_c38d5 23 = .ok (.arraylength, 1) := by decide +kernel
theorem dJ7_copyOf_c38d5_24 : decode cJ7_copyOf_c38d5 24 = .ok (.iload_n 1, 1) := by decide +kernel
theorem dJ7_copyOf_c38d5_25 : decode cJ7_copyOf_c38d5 25 = .ok (.invokestatic 304, 3) := by decide +kernel
theorem dJ7_copyOf_c38d5_28 : decode cJ7_copyOf_c38d5 28 = .ok (.invokestatic 150, 3) := by decide +kernel
theorem dJ7_copyOf_c38d5_31 : decode cJ7_copyOf_c38d5 31 = .ok (.aload_n 2, 1) := by decide +kernel
theorem dJ7_copyOf_c38d5_32 : decode cJ7_copyOf_c38d5 32 = .ok (.areturn, 1) := by decide +kernel
theorem dL_law_0 : decode cL_law 0 = .ok (.new 7, 3) := by decide +kernel
theorem dL_law_3 : decode cL_law 3 = .ok (.dup, 1) := by decide +kernel
theorem dL_law_4 : decode cL_law 4 = .ok (.invokespecial 9, 3) := by decide +kernel
theorem dL_law_7 : decode cL_law 7 = .ok (.astore_n 1, 1) := by decide +kernel
theorem dL_law_8 : decode cL_law 8 = .ok (.new 10, 3) := by decide +kernel
theorem dL_law_11 : decode cL_law 11 = .ok (.dup, 1) := by decide +kernel
theorem dL_law_12 : decode cL_law 12 = .ok (.invokespecial 12, 3) := by decide +kernel
theorem dL_law_15 : decode cL_law 15 = .ok (.astore_n 2, 1) := by decide +kernel
theorem dL_law_16 : decode cL_law 16 = .ok (.iconst 0, 1) := by decide +kernel
theorem dL_law_17 : decode cL_law 17 = .ok (.istore_n 3, 1) := by decide +kernel
theorem dL_law_18 : decode cL_law 18 = .ok (.iload_n 3, 1) := by decide +kernel
theorem dL_law_19 : decode cL_law 19 = .ok (.aload_n 0, 1) := by decide +kernel
theorem dL_law_20 : decode cL_law 20 = .ok (.arraylength, 1) := by decide +kernel
theorem dL_law_21 : decode cL_law 21 = .ok (.iconst 5, 1) := by decide +kernel
theorem dL_law_22 : decode cL_law 22 = .ok (.isub, 1) := by decide +kernel
theorem dL_law_23 : decode cL_law 23 = .ok (.if_icmp .gt 678, 3) := by decide +kernel
theorem dL_law_26 : decode cL_law 26 = .ok (.aload_n 0, 1) := by decide +kernel
theorem dL_law_27 : decode cL_law 27 = .ok (.iload_n 3, 1) := by decide +kernel
theorem dL_law_28 : decode cL_law 28 = .ok (.iaload, 1) := by decide +kernel
theorem dL_law_29 : decode cL_law 29 = .ok (.bipush 31, 2) := by decide +kernel
theorem dL_law_31 : decode cL_law 31 = .ok (.iand, 1) := by decide +kernel
theorem dL_law_32 : decode cL_law 32 = .ok (.tableswitch 663 0 16 #[84, 143, 176, 219, 272, 315, 338, 371, 404, 417, 440, 474, 507, 540, 573, 626, 650], 84) := by decide +kernel
theorem dL_law_116 : decode cL_law 116 = .ok (.aload_n 1, 1) := by decide +kernel
theorem dL_law_117 : decode cL_law 117 = .ok (.aload_n 0, 1) := by decide +kernel
theorem dL_law_118 : decode cL_law 118 = .ok (.iload_n 3, 1) := by decide +kernel
theorem dL_law_119 : decode cL_law 119 = .ok (.iconst 1, 1) := by decide +kernel
theorem dL_law_120 : decode cL_law 120 = .ok (.iadd, 1) := by decide +kernel
theorem dL_law_121 : decode cL_law 121 = .ok (.iaload, 1) := by decide +kernel
theorem dL_law_122 : decode cL_law 122 = .ok (.aload_n 0, 1) := by decide +kernel
theorem dL_law_123 : decode cL_law 123 = .ok (.iload_n 3, 1) := by decide +kernel
theorem dL_law_124 : decode cL_law 124 = .ok (.iconst 2, 1) := by decide +kernel
theorem dL_law_125 : decode cL_law 125 = .ok (.iadd, 1) := by decide +kernel
theorem dL_law_126 : decode cL_law 126 = .ok (.iaload, 1) := by decide +kernel
theorem dL_law_127 : decode cL_law 127 = .ok (.aload_n 0, 1) := by decide +kernel
theorem dL_law_128 : decode cL_law 128 = .ok (.iload_n 3, 1) := by decide +kernel
theorem dL_law_129 : decode cL_law 129 = .ok (.iconst 3, 1) := by decide +kernel
theorem dL_law_130 : decode cL_law 130 = .ok (.iadd, 1) := by decide +kernel
theorem dL_law_131 : decode cL_law 131 = .ok (.iaload, 1) := by decide +kernel
theorem dL_law_132 : decode cL_law 132 = .ok (.ifCond .eq 7, 3) := by decide +kernel
theorem dL_law_135 : decode cL_law 135 = .ok (.iconst 1, 1) := by decide +kernel
theorem dL_law_136 : decode cL_law 136 = .ok (.goto 4, 3) := by decide +kernel
theorem dL_law_139 : decode cL_law 139 = .ok (.iconst 0, 1) := by decide +kernel
theorem dL_law_140 : decode cL_law 140 = .ok (.invokevirtual 13, 3) := by decide +kernel
theorem dL_law_143 : decode cL_law 143 = .ok (.aload_n 2, 1) := by decide +kernel
theorem dL_law_144 : decode cL_law 144 = .ok (.aload_n 0, 1) := by decide +kernel
theorem dL_law_145 : decode cL_law 145 = .ok (.iload_n 3, 1) := by decide +kernel
theorem dL_law_146 : decode cL_law 146 = .ok (.iconst 1, 1) := by decide +kernel
theorem dL_law_147 : decode cL_law 147 = .ok (.iadd, 1) := by decide +kernel
theorem dL_law_148 : decode cL_law 148 = .ok (.iaload, 1) := by decide +kernel
theorem dL_law_149 : decode cL_law 149 = .ok (.aload_n 0, 1) := by decide +kernel
theorem dL_law_150 : decode cL_law 150 = .ok (.iload_n 3, 1) := by decide +kernel
theorem dL_law_151 : decode cL_law 151 = .ok (.iconst 2, 1) := by decide +kernel
theorem dL_law_152 : decode cL_law 152 = .ok (.iadd, 1) := by decide +kernel
theorem dL_law_153 : decode cL_law 153 = .ok (.iaload, 1) := by decide +kernel
theorem dL_law_154 : decode cL_law 154 = .ok (.aload_n 0, 1) := by decide +kernel
theorem dL_law_155 : decode cL_law 155 = .ok (.iload_n 3, 1) := by decide +kernel
theorem dL_law_156 : decode cL_law 156 = .ok (.iconst 3, 1) := by decide +kernel
theorem dL_law_157 : decode cL_law 157 = .ok (.iadd, 1) := by decide +kernel
theorem dL_law_158 : decode cL_law 158 = .ok (.iaload, 1) := by decide +kernel
theorem dL_law_159 : decode cL_law 159 = .ok (.ifCond .eq 7, 3) := by decide +kernel
theorem dL_law_162 : decode cL_law 162 = .ok (.iconst 1, 1) := by decide +kernel
theorem dL_law_163 : decode cL_law 163 = .ok (.goto 4, 3) := by decide +kernel
theorem dL_law_166 : decode cL_law 166 = .ok (.iconst 0, 1) := by decide +kernel
theorem dL_law_167 : decode cL_law 167 = .ok (.invokevirtual 17, 3) := by decide +kernel
theorem dL_law_170 : decode cL_law 170 = .ok (.if_icmp .eq 525, 3) := by decide +kernel
theorem dL_law_173 : decode cL_law 173 = .ok (.iconst 0, 1) := by decide +kernel
theorem dL_law_174 : decode cL_law 174 = .ok (.ireturn, 1) := by decide +kernel
theorem dL_law_175 : decode cL_law 175 = .ok (.aload_n 1, 1) := by decide +kernel
theorem dL_law_176 : decode cL_law 176 = .ok (.aload_n 0, 1) := by decide +kernel
theorem dL_law_177 : decode cL_law 177 = .ok (.iload_n 3, 1) := by decide +kernel
theorem dL_law_178 : decode cL_law 178 = .ok (.iconst 1, 1) := by decide +kernel
theorem dL_law_179 : decode cL_law 179 = .ok (.iadd, 1) := by decide +kernel
theorem dL_law_180 : decode cL_law 180 = .ok (.iaload, 1) := by decide +kernel
theorem dL_law_181 : decode cL_law 181 = .ok (.aload_n 0, 1) := by decide +kernel
theorem dL_law_182 : decode cL_law 182 = .ok (.iload_n 3, 1) := by decide +kernel
theorem dL_law_183 : decode cL_law 183 = .ok (.iconst 2, 1) := by decide +kernel
theorem dL_law_184 : decode cL_law 184 = .ok (.iadd, 1) := by decide +kernel
theorem dL_law_185 : decode cL_law 185 = .ok (.iaload, 1) := by decide +kernel
theorem dL_law_186 : decode cL_law 186 = .ok (.invokevirtual 18, 3) := by decide +kernel
theorem dL_law_189 : decode cL_law 189 = .ok (.aload_n 2, 1) := by decide +kernel
theorem dL_law_190 : decode cL_law 190 = .ok (.aload_n 0, 1) := by decide +kernel
theorem dL_law_191 : decode cL_law 191 = .ok (.iload_n 3, 1) := by decide +kernel
theorem dL_law_192 : decode cL_law 192 = .ok (.iconst 1, 1) := by decide +kernel
theorem dL_law_193 : decode cL_law 193 = .ok (.iadd, 1) := by decide +kernel
theorem dL_law_194 : decode cL_law 194 = .ok (.iaload, 1) := by decide +kernel
theorem dL_law_195 : decode cL_law 195 = .ok (.aload_n 0, 1) := by decide +kernel
theorem dL_law_196 : decode cL_law 196 = .ok (.iload_n 3, 1) := by decide +kernel
theorem dL_law_197 : decode cL_law 197 = .ok (.iconst 2, 1) := by decide +kernel
theorem dL_law_198 : decode cL_law 198 = .ok (.iadd, 1) := by decide +kernel
theorem dL_law_199 : decode cL_law 199 = .ok (.iaload, 1) := by decide +kernel
theorem dL_law_200 : decode cL_law 200 = .ok (.invokevirtual 22, 3) := by decide +kernel
theorem dL_law_203 : decode cL_law 203 = .ok (.if_icmp .eq 492, 3) := by decide +kernel
theorem dL_law_206 : decode cL_law 206 = .ok (.iconst 0, 1) := by decide +kernel
theorem dL_law_207 : decode cL_law 207 = .ok (.ireturn, 1) := by decide +kernel
theorem dL_law_208 : decode cL_law 208 = .ok (.aload_n 1, 1) := by decide +kernel
theorem dL_law_209 : decode cL_law 209 = .ok (.aload_n 0, 1) := by decide +kernel
theorem dL_law_210 : decode cL_law 210 = .ok (.iload_n 3, 1) := by decide +kernel
theorem dL_law_211 : decode cL_law 211 = .ok (.iconst 1, 1) := by decide +kernel
theorem dL_law_212 : decode cL_law 212 = .ok (.iadd, 1) := by decide +kernel
theorem dL_law_213 : decode cL_law 213 = .ok (.iaload, 1) := by decide +kernel
theorem dL_law_214 : decode cL_law 214 = .ok (.aload_n 0, 1) := by decide +kernel
theorem dL_law_215 : decode cL_law 215 = .ok (.iload_n 3, 1) := by decide +kernel
theorem dL_law_216 : decode cL_law 216 = .ok (.iconst 2, 1) := by decide +kernel
theorem dL_law_217 : decode cL_law 217 = .ok (.iadd, 1) := by decide +kernel
theorem dL_law_218 : decode cL_law 218 = .ok (.iaload, 1) := by decide +kernel
theorem dL_law_219 : decode cL_law 219 = .ok (.aload_n 0, 1) := by decide +kernel
theorem dL_law_220 : decode cL_law 220 = .ok (.iload_n 3, 1) := by decide +kernel
theorem dL_law_221 : decode cL_law 221 = .ok (.iconst 3, 1) := by decide +kernel
theorem dL_law_222 : decode cL_law 222 = .ok (.iadd, 1) := by decide +kernel
theorem dL_law_223 : decode cL_law 223 = .ok (.iaload, 1) := by decide +kernel
theorem dL_law_224 : decode cL_law 224 = .ok (.invokevirtual 23, 3) := by decide +kernel
theorem dL_law_227 : decode cL_law 227 = .ok (.aload_n 2, 1) := by decide +kernel
theorem dL_law_228 : decode cL_law 228 = .ok (.aload_n 0, 1) := by decide +kernel
theorem dL_law_229 : decode cL_law 229 = .ok (.iload_n 3, 1) := by decide +kernel
theorem dL_law_230 : decode cL_law 230 = .ok (.iconst 1, 1) := by decide +kernel
theorem dL_law_231 : decode cL_law 231 = .ok (.iadd, 1) := by decide +kernel
theorem dL_law_232 : decode cL_law 232 = .ok (.iaload, 1) := by decide +kernel
theorem dL_law_233 : decode cL_law 233 = .ok (.aload_n 0, 1) := by decide +kernel
theorem dL_law_234 : decode cL_law 234 = .ok (.iload_n 3, 1) := by decide +kernel
theorem dL_law_235 : decode cL_law 235 = .ok (.iconst 2, 1) := by decide +kernel
theorem dL_law_236 : decode cL_law 236 = .ok (.iadd, 1) := by decide +kernel
theorem dL_law_237 : decode cL_law 237 = .ok (.iaload, 1) := by decide +kernel
theorem dL_law_238 : decode cL_law 238 = .ok (.aload_n 0, 1) := by decide +kernel
theorem dL_law_239 : decode cL_law 239 = .ok (.iload_n 3, 1) := by decide +kernel
theorem dL_law_240 : decode cL_law 240 = .ok (.iconst 3, 1) := by decide +kernel
theorem dL_law_241 : decode cL_law 241 = .ok (.iadd, 1) := by decide +kernel
theorem dL_law_242 : decode cL_law 242 = .ok (.iaload, 1) := by decide +kernel
theorem dL_law_243 : decode cL_law 243 = .ok (.invokevirtual 27, 3) := by decide +kernel
theorem dL_law_246 : decode cL_law 246 = .ok (.if_icmp .eq 449, 3) := by decide +kernel
theorem dL_law_249 : decode cL_law 249 = .ok (.iconst 0, 1) := by decide +kernel
theorem dL_law_250 : decode cL_law 250 = .ok (.ireturn, 1) := by decide +kernel
theorem dL_law_251 : decode cL_law 251 = .ok (.aload_n 1, 1) := by decide +kernel
theorem dL_law_252 : decode cL_law 252 = .ok (.aload_n 0, 1) := by decide +kernel
theorem dL_law_253 : decode cL_law 253 = .ok (.iload_n 3, 1) := by decide +kernel
theorem dL_law_254 : decode cL_law 254 = .ok (.iconst 1, 1) := by decide +kernel
theorem dL_law_255 : decode cL_law 255 = .ok (.iadd, 1) := by decide +kernel
theorem dL_law_256 : decode cL_law 256 = .ok (.iaload, 1) := by decide +kernel
theorem dL_law_257 : decode cL_law 257 = .ok (.aload_n 0, 1) := by decide +kernel
theorem dL_law_258 : decode cL_law 258 = .ok (.iload_n 3, 1) := by decide +kernel
theorem dL_law_259 : decode cL_law 259 = .ok (.iconst 2, 1) := by decide +kernel
theorem dL_law_260 : decode cL_law 260 = .ok (.iadd, 1) := by decide +kernel
theorem dL_law_261 : decode cL_law 261 = .ok (.iaload, 1) := by decide +kernel
theorem dL_law_262 : decode cL_law 262 = .ok (.aload_n 0, 1) := by decide +kernel
theorem dL_law_263 : decode cL_law 263 = .ok (.iload_n 3, 1) := by decide +kernel
theorem dL_law_264 : decode cL_law 264 = .ok (.iconst 3, 1) := by decide +kernel
theorem dL_law_265 : decode cL_law 265 = .ok (.iadd, 1) := by decide +kernel
theorem dL_law_266 : decode cL_law 266 = .ok (.iaload, 1) := by decide +kernel
theorem dL_law_267 : decode cL_law 267 = .ok (.aload_n 0, 1) := by decide +kernel
theorem dL_law_268 : decode cL_law 268 = .ok (.iload_n 3, 1) := by decide +kernel
theorem dL_law_269 : decode cL_law 269 = .ok (.iconst 4, 1) := by decide +kernel
theorem dL_law_270 : decode cL_law 270 = .ok (.iadd, 1) := by decide +kernel
theorem dL_law_271 : decode cL_law 271 = .ok (.iaload, 1) := by decide +kernel
theorem dL_law_272 : decode cL_law 272 = .ok (.invokevirtual 28, 3) := by decide +kernel
theorem dL_law_275 : decode cL_law 275 = .ok (.aload_n 2, 1) := by decide +kernel
theorem dL_law_276 : decode cL_law 276 = .ok (.aload_n 0, 1) := by decide +kernel
theorem dL_law_277 : decode cL_law 277 = .ok (.iload_n 3, 1) := by decide +kernel
theorem dL_law_278 : decode cL_law 278 = .ok (.iconst 1, 1) := by decide +kernel
theorem dL_law_279 : decode cL_law 279 = .ok (.iadd, 1) := by decide +kernel
theorem dL_law_280 : decode cL_law 280 = .ok (.iaload, 1) := by decide +kernel
theorem dL_law_281 : decode cL_law 281 = .ok (.aload_n 0, 1) := by decide +kernel
theorem dL_law_282 : decode cL_law 282 = .ok (.iload_n 3, 1) := by decide +kernel
theorem dL_law_283 : decode cL_law 283 = .ok (.iconst 2, 1) := by decide +kernel
theorem dL_law_284 : decode cL_law 284 = .ok (.iadd, 1) := by decide +kernel
theorem dL_law_285 : decode cL_law 285 = .ok (.iaload, 1) := by decide +kernel
theorem dL_law_286 : decode cL_law 286 = .ok (.aload_n 0, 1) := by decide +kernel
theorem dL_law_287 : decode cL_law 287 = .ok (.iload_n 3, 1) := by decide +kernel
theorem dL_law_288 : decode cL_law 288 = .ok (.iconst 3, 1) := by decide +kernel
theorem dL_law_289 : decode cL_law 289 = .ok (.iadd, 1) := by decide +kernel
theorem dL_law_290 : decode cL_law 290 = .ok (.iaload, 1) := by decide +kernel
theorem dL_law_291 : decode cL_law 291 = .ok (.aload_n 0, 1) := by decide +kernel
theorem dL_law_292 : decode cL_law 292 = .ok (.iload_n 3, 1) := by decide +kernel
theorem dL_law_293 : decode cL_law 293 = .ok (.iconst 4, 1) := by decide +kernel
theorem dL_law_294 : decode cL_law 294 = .ok (.iadd, 1) := by decide +kernel
theorem dL_law_295 : decode cL_law 295 = .ok (.iaload, 1) := by decide +kernel
theorem dL_law_296 : decode cL_law 296 = .ok (.invokevirtual 32, 3) := by decide +kernel
theorem dL_law_299 : decode cL_law 299 = .ok (.if_icmp .eq 396, 3) := by decide +kernel
theorem dL_law_302 : decode cL_law 302 = .ok (.iconst 0, 1) := by decide +kernel
theorem dL_law_303 : decode cL_law 303 = .ok (.ireturn, 1) := by decide +kernel
theorem dL_law_304 : decode cL_law 304 = .ok (.aload_n 1, 1) := by decide +kernel
theorem dL_law_305 : decode cL_law 305 = .ok (.aload_n 0, 1) := by decide +kernel
theorem dL_law_306 : decode cL_law 306 = .ok (.iload_n 3, 1) := by decide +kernel
theorem dL_law_307 : decode cL_law 307 = .ok (.iconst 1, 1) := by decide +kernel
theorem dL_law_308 : decode cL_law 308 = .ok (.iadd, 1) := by decide +kernel
theorem dL_law_309 : decode cL_law 309 = .ok (.iaload, 1) := by decide +kernel
theorem dL_law_310 : decode cL_law 310 = .ok (.aload_n 0, 1) := by decide +kernel
theorem dL_law_311 : decode cL_law 311 = .ok (.iload_n 3, 1) := by decide +kernel
theorem dL_law_312 : decode cL_law 312 = .ok (.iconst 2, 1) := by decide +kernel
theorem dL_law_313 : decode cL_law 313 = .ok (.iadd, 1) := by decide +kernel
theorem dL_law_314 : decode cL_law 314 = .ok (.iaload, 1) := by decide +kernel
theorem dL_law_315 : decode cL_law 315 = .ok (.aload_n 0, 1) := by decide +kernel
theorem dL_law_316 : decode cL_law 316 = .ok (.iload_n 3, 1) := by decide +kernel
theorem dL_law_317 : decode cL_law 317 = .ok (.iconst 3, 1) := by decide +kernel
theorem dL_law_318 : decode cL_law 318 = .ok (.iadd, 1) := by decide +kernel
theorem dL_law_319 : decode cL_law 319 = .ok (.iaload, 1) := by decide +kernel
theorem dL_law_320 : decode cL_law 320 = .ok (.invokevirtual 33, 3) := by decide +kernel
theorem dL_law_323 : decode cL_law 323 = .ok (.aload_n 2, 1) := by decide +kernel
theorem dL_law_324 : decode cL_law 324 = .ok (.aload_n 0, 1) := by decide +kernel
theorem dL_law_325 : decode cL_law 325 = .ok (.iload_n 3, 1) := by decide +kernel
theorem dL_law_326 : decode cL_law 326 = .ok (.iconst 1, 1) := by decide +kernel
theorem dL_law_327 : decode cL_law 327 = .ok (.iadd, 1) := by decide +kernel
theorem dL_law_328 : decode cL_law 328 = .ok (.iaload, 1) := by decide +kernel
theorem dL_law_329 : decode cL_law 329 = .ok (.aload_n 0, 1) := by decide +kernel
theorem dL_law_330 : decode cL_law 330 = .ok (.iload_n 3, 1) := by decide +kernel
theorem dL_law_331 : decode cL_law 331 = .ok (.iconst 2, 1) := by decide +kernel
theorem dL_law_332 : decode cL_law 332 = .ok (.iadd, 1) := by decide +kernel
theorem dL_law_333 : decode cL_law 333 = .ok (.iaload, 1) := by decide +kernel
theorem dL_law_334 : decode cL_law 334 = .ok (.aload_n 0, 1) := by decide +kernel
theorem dL_law_335 : decode cL_law 335 = .ok (.iload_n 3, 1) := by decide +kernel
theorem dL_law_336 : decode cL_law 336 = .ok (.iconst 3, 1) := by decide +kernel
theorem dL_law_337 : decode cL_law 337 = .ok (.iadd, 1) := by decide +kernel
theorem dL_law_338 : decode cL_law 338 = .ok (.iaload, 1) := by decide +kernel
theorem dL_law_339 : decode cL_law 339 = .ok (.invokevirtual 36, 3) := by decide +kernel
theorem dL_law_342 : decode cL_law 342 = .ok (.if_icmp .eq 353, 3) := by decide +kernel
theorem dL_law_345 : decode cL_law 345 = .ok (.iconst 0, 1) := by decide +kernel
theorem dL_law_346 : decode cL_law 346 = .ok (.ireturn, 1) := by decide +kernel
theorem dL_law_347 : decode cL_law 347 = .ok (.aload_n 1, 1) := by decide +kernel
theorem dL_law_348 : decode cL_law 348 = .ok (.aload_n 0, 1) := by decide +kernel
theorem dL_law_349 : decode cL_law 349 = .ok (.iload_n 3, 1) := by decide +kernel
theorem dL_law_350 : decode cL_law 350 = .ok (.iconst 1, 1) := by decide +kernel
theorem dL_law_351 : decode cL_law 351 = .ok (.iadd, 1) := by decide +kernel
theorem dL_law_352 : decode cL_law 352 = .ok (.iaload, 1) := by decide +kernel
theorem dL_law_353 : decode cL_law 353 = .ok (.invokevirtual 37, 3) := by decide +kernel
theorem dL_law_356 : decode cL_law 356 = .ok (.aload_n 2, 1) := by decide +kernel
theorem dL_law_357 : decode cL_law 357 = .ok (.aload_n 0, 1) := by decide +kernel
theorem dL_law_358 : decode cL_law 358 = .ok (.iload_n 3, 1) := by decide +kernel
theorem dL_law_359 : decode cL_law 359 = .ok (.iconst 1, 1) := by decide +kernel
theorem dL_law_360 : decode cL_law 360 = .ok (.iadd, 1) := by decide +kernel
theorem dL_law_361 : decode cL_law 361 = .ok (.iaload, 1) := by decide +kernel
theorem dL_law_362 : decode cL_law 362 = .ok (.invokevirtual 41, 3) := by decide +kernel
theorem dL_law_365 : decode cL_law 365 = .ok (.if_icmp .eq 330, 3) := by decide +kernel
theorem dL_law_368 : decode cL_law 368 = .ok (.iconst 0, 1) := by decide +kernel
theorem dL_law_369 : decode cL_law 369 = .ok (.ireturn, 1) := by decide +kernel
theorem dL_law_370 : decode cL_law 370 = .ok (.aload_n 1, 1) := by decide +kernel
theorem dL_law_371 : decode cL_law 371 = .ok (.aload_n 0, 1) := by decide +kernel
theorem dL_law_372 : decode cL_law 372 = .ok (.iload_n 3, 1) := by decide +kernel
theorem dL_law_373 : decode cL_law 373 = .ok (.iconst 1, 1) := by decide +kernel
theorem dL_law_374 : decode cL_law 374 = .ok (.iadd, 1) := by decide +kernel
theorem dL_law_375 : decode cL_law 375 = .ok (.iaload, 1) := by decide +kernel
theorem dL_law_376 : decode cL_law 376 = .ok (.aload_n 0, 1) := by decide +kernel
theorem dL_law_377 : decode cL_law 377 = .ok (.iload_n 3, 1) := by decide +kernel
theorem dL_law_378 : decode cL_law 378 = .ok (.iconst 2, 1) := by decide +kernel
theorem dL_law_379 : decode cL_law 379 = .ok (.iadd, 1) := by decide +kernel
theorem dL_law_380 : decode cL_law 380 = .ok (.iaload, 1) := by decide +kernel
theorem dL_law_381 : decode cL_law 381 = .ok (.invokevirtual 42, 3) := by decide +kernel
theorem dL_law_384 : decode cL_law 384 = .ok (.aload_n 2, 1) := by decide +kernel
theorem dL_law_385 : decode cL_law 385 = .ok (.aload_n 0, 1) := by decide +kernel
theorem dL_law_386 : decode cL_law 386 = .ok (.iload_n 3, 1) := by decide +kernel
theorem dL_law_387 : decode cL_law 387 = .ok (.iconst 1, 1) := by decide +kernel
theorem dL_law_388 : decode cL_law 388 = .ok (.iadd, 1) := by decide +kernel
theorem dL_law_389 : decode cL_law 389 = .ok (.iaload, 1) := by decide +kernel
theorem dL_law_390 : decode cL_law 390 = .ok (.aload_n 0, 1) := by decide +kernel
theorem dL_law_391 : decode cL_law 391 = .ok (.iload_n 3, 1) := by decide +kernel
theorem dL_law_392 : decode cL_law 392 = .ok (.iconst 2, 1) := by decide +kernel
theorem dL_law_393 : decode cL_law 393 = .ok (.iadd, 1) := by decide +kernel
theorem dL_law_394 : decode cL_law 394 = .ok (.iaload, 1) := by decide +kernel
theorem dL_law_395 : decode cL_law 395 = .ok (.invokevirtual 46, 3) := by decide +kernel
theorem dL_law_398 : decode cL_law 398 = .ok (.if_icmp .eq 297, 3) := by decide +kernel
theorem dL_law_401 : decode cL_law 401 = .ok (.iconst 0, 1) := by decide +kernel
theorem dL_law_402 : decode cL_law 402 = .ok (.ireturn, 1) := by decide +kernel
theorem dL_law_403 : decode cL_law 403 = .ok (.aload_n 1, 1) := by decide +kernel
theorem dL_law_404 : decode cL_law 404 = .ok (.aload_n 0, 1) := by decide +kernel
theorem dL_law_405 : decode cL_law 405 = .ok (.iload_n 3, 1) := by decide +kernel
theorem dL_law_406 : decode cL_law 406 = .ok (.iconst 1, 1) := by decide +kernel
theorem dL_law_407 : decode cL_law 407 = .ok (.iadd, 1) := by decide +kernel
theorem dL_law_408 : decode cL_law 408 = .ok (.iaload, 1) := by decide +kernel
theorem dL_law_409 : decode cL_law 409 = .ok (.aload_n 0, 1) := by decide +kernel
theorem dL_law_410 : decode cL_law 410 = .ok (.iload_n 3, 1) := by decide +kernel
theorem dL_law_411 : decode cL_law 411 = .ok (.iconst 2, 1) := by decide +kernel
theorem dL_law_412 : decode cL_law 412 = .ok (.iadd, 1) := by decide +kernel
theorem dL_law_413 : decode cL_law 413 = .ok (.iaload, 1) := by decide +kernel
theorem dL_law_414 : decode cL_law 414 = .ok (.invokevirtual 47, 3) := by decide +kernel
theorem dL_law_417 : decode cL_law 417 = .ok (.aload_n 2, 1) := by decide +kernel
theorem dL_law_418 : decode cL_law 418 = .ok (.aload_n 0, 1) := by decide +kernel
theorem dL_law_419 : decode cL_law 419 = .ok (.iload_n 3, 1) := by decide +kernel
theorem dL_law_420 : decode cL_law 420 = .ok (.iconst 1, 1) := by decide +kernel
theorem dL_law_421 : decode cL_law 421 = .ok (.iadd, 1) := by decide +kernel
theorem dL_law_422 : decode cL_law 422 = .ok (.iaload, 1) := by decide +kernel
theorem dL_law_423 : decode cL_law 423 = .ok (.aload_n 0, 1) := by decide +kernel
theorem dL_law_424 : decode cL_law 424 = .ok (.iload_n 3, 1) := by decide +kernel
theorem dL_law_425 : decode cL_law 425 = .ok (.iconst 2, 1) := by decide +kernel
theorem dL_law_426 : decode cL_law 426 = .ok (.iadd, 1) := by decide +kernel
theorem dL_law_427 : decode cL_law 427 = .ok (.iaload, 1) := by decide +kernel
theorem dL_law_428 : decode cL_law 428 = .ok (.invokevirtual 50, 3) := by decide +kernel
theorem dL_law_431 : decode cL_law 431 = .ok (.if_icmp .eq 264, 3) := by decide +kernel
theorem dL_law_434 : decode cL_law 434 = .ok (.iconst 0, 1) := by decide +kernel
theorem dL_law_435 : decode cL_law 435 = .ok (.ireturn, 1) := by decide +kernel
theorem dL_law_436 : decode cL_law 436 = .ok (.aload_n 1, 1) := by decide +kernel
theorem dL_law_437 : decode cL_law 437 = .ok (.invokevirtual 51, 3) := by decide +kernel
theorem dL_law_440 : decode cL_law 440 = .ok (.aload_n 2, 1) := by decide +kernel
theorem dL_law_441 : decode cL_law 441 = .ok (.invokevirtual 55, 3) := by decide +kernel
theorem dL_law_444 : decode cL_law 444 = .ok (.if_icmp .eq 251, 3) := by decide +kernel
theorem dL_law_447 : decode cL_law 447 = .ok (.iconst 0, 1) := by decide +kernel
theorem dL_law_448 : decode cL_law 448 = .ok (.ireturn, 1) := by decide +kernel
theorem dL_law_449 : decode cL_law 449 = .ok (.aload_n 1, 1) := by decide +kernel
theorem dL_law_450 : decode cL_law 450 = .ok (.aload_n 0, 1) := by decide +kernel
theorem dL_law_451 : decode cL_law 451 = .ok (.iload_n 3, 1) := by decide +kernel
theorem dL_law_452 : decode cL_law 452 = .ok (.iconst 1, 1) := by decide +kernel
theorem dL_law_453 : decode cL_law 453 = .ok (.iadd, 1) := by decide +kernel
theorem dL_law_454 : decode cL_law 454 = .ok (.iaload, 1) := by decide +kernel
theorem dL_law_455 : decode cL_law 455 = .ok (.invokevirtual 56, 3) := by decide +kernel
theorem dL_law_458 : decode cL_law 458 = .ok (.aload_n 2, 1) := by decide +kernel
theorem dL_law_459 : decode cL_law 459 = .ok (.aload_n 0, 1) := by decide +kernel
theorem dL_law_460 : decode cL_law 460 = .ok (.iload_n 3, 1) := by decide +kernel
theorem dL_law_461 : decode cL_law 461 = .ok (.iconst 1, 1) := by decide +kernel
theorem dL_law_462 : decode cL_law 462 = .ok (.iadd, 1) := by decide +kernel
theorem dL_law_463 : decode cL_law 463 = .ok (.iaload, 1) := by decide +kernel
theorem dL_law_464 : decode cL_law 464 = .ok (.invokevirtual 60, 3) := by decide +kernel
theorem dL_law_467 : decode cL_law 467 = .ok (.if_icmp .eq 228, 3) := by decide +kernel
theorem dL_law_470 : decode cL_law 470 = .ok (.iconst 0, 1) := by decide +kernel
theorem dL_law_471 : decode cL_law 471 = .ok (.ireturn, 1) := by decide +kernel
theorem dL_law_472 : decode cL_law 472 = .ok (.aload_n 1, 1) := by decide +kernel
theorem dL_law_473 : decode cL_law 473 = .ok (.aload_n 0, 1) := by decide +kernel
theorem dL_law_474 : decode cL_law 474 = .ok (.iload_n 3, 1) := by decide +kernel
theorem dL_law_475 : decode cL_law 475 = .ok (.iconst 1, 1) := by decide +kernel
theorem dL_law_476 : decode cL_law 476 = .ok (.iadd, 1) := by decide +kernel
theorem dL_law_477 : decode cL_law 477 = .ok (.iaload, 1) := by decide +kernel
theorem dL_law_478 : decode cL_law 478 = .ok (.aload_n 0, 1) := by decide +kernel
theorem dL_law_479 : decode cL_law 479 = .ok (.iload_n 3, 1) := by decide +kernel
theorem dL_law_480 : decode cL_law 480 = .ok (.iconst 2, 1) := by decide +kernel
theorem dL_law_481 : decode cL_law 481 = .ok (.iadd, 1) := by decide +kernel
theorem dL_law_482 : decode cL_law 482 = .ok (.iaload, 1) := by decide +kernel
theorem dL_law_483 : decode cL_law 483 = .ok (.invokevirtual 61, 3) := by decide +kernel
theorem dL_law_486 : decode cL_law 486 = .ok (.aload_n 2, 1) := by decide +kernel
theorem dL_law_487 : decode cL_law 487 = .ok (.aload_n 0, 1) := by decide +kernel
theorem dL_law_488 : decode cL_law 488 = .ok (.iload_n 3, 1) := by decide +kernel
theorem dL_law_489 : decode cL_law 489 = .ok (.iconst 1, 1) := by decide +kernel
theorem dL_law_490 : decode cL_law 490 = .ok (.iadd, 1) := by decide +kernel
theorem dL_law_491 : decode cL_law 491 = .ok (.iaload, 1) := by decide +kernel
theorem dL_law_492 : decode cL_law 492 = .ok (.aload_n 0, 1) := by decide +kernel
theorem dL_law_493 : decode cL_law 493 = .ok (.iload_n 3, 1) := by decide +kernel
theorem dL_law_494 : decode cL_law 494 = .ok (.iconst 2, 1) := by decide +kernel
theorem dL_law_495 : decode cL_law 495 = .ok (.iadd, 1) := by decide +kernel
theorem dL_law_496 : decode cL_law 496 = .ok (.iaload, 1) := by decide +kernel
theorem dL_law_497 : decode cL_law 497 = .ok (.invokevirtual 65, 3) := by decide +kernel
theorem dL_law_500 : decode cL_law 500 = .ok (.lcmp, 1) := by decide +kernel
theorem dL_law_501 : decode cL_law 501 = .ok (.ifCond .eq 194, 3) := by decide +kernel
theorem dL_law_504 : decode cL_law 504 = .ok (.iconst 0, 1) := by decide +kernel
theorem dL_law_505 : decode cL_law 505 = .ok (.ireturn, 1) := by decide +kernel
theorem dL_law_506 : decode cL_law 506 = .ok (.aload_n 1, 1) := by decide +kernel
theorem dL_law_507 : decode cL_law 507 = .ok (.aload_n 0, 1) := by decide +kernel
theorem dL_law_508 : decode cL_law 508 = .ok (.iload_n 3, 1) := by decide +kernel
theorem dL_law_509 : decode cL_law 509 = .ok (.iconst 1, 1) := by decide +kernel
theorem dL_law_510 : decode cL_law 510 = .ok (.iadd, 1) := by decide +kernel
theorem dL_law_511 : decode cL_law 511 = .ok (.iaload, 1) := by decide +kernel
theorem dL_law_512 : decode cL_law 512 = .ok (.aload_n 0, 1) := by decide +kernel
theorem dL_law_513 : decode cL_law 513 = .ok (.iload_n 3, 1) := by decide +kernel
theorem dL_law_514 : decode cL_law 514 = .ok (.iconst 2, 1) := by decide +kernel
theorem dL_law_515 : decode cL_law 515 = .ok (.iadd, 1) := by decide +kernel
theorem dL_law_516 : decode cL_law 516 = .ok (.iaload, 1) := by decide +kernel
theorem dL_law_517 : decode cL_law 517 = .ok (.invokevirtual 66, 3) := by decide +kernel
theorem dL_law_520 : decode cL_law 520 = .ok (.aload_n 2, 1) := by decide +kernel
theorem dL_law_521 : decode cL_law 521 = .ok (.aload_n 0, 1) := by decide +kernel
theorem dL_law_522 : decode cL_law 522 = .ok (.iload_n 3, 1) := by decide +kernel
theorem dL_law_523 : decode cL_law 523 = .ok (.iconst 1, 1) := by decide +kernel
theorem dL_law_524 : decode cL_law 524 = .ok (.iadd, 1) := by decide +kernel
theorem dL_law_525 : decode cL_law 525 = .ok (.iaload, 1) := by decide +kernel
theorem dL_law_526 : decode cL_law 526 = .ok (.aload_n 0, 1) := by decide +kernel
theorem dL_law_527 : decode cL_law 527 = .ok (.iload_n 3, 1) := by decide +kernel
theorem dL_law_528 : decode cL_law 528 = .ok (.iconst 2, 1) := by decide +kernel
theorem dL_law_529 : decode cL_law 529 = .ok (.iadd, 1) := by decide +kernel
theorem dL_law_530 : decode cL_law 530 = .ok (.iaload, 1) := by decide +kernel
theorem dL_law_531 : decode cL_law 531 = .ok (.invokevirtual 69, 3) := by decide +kernel
theorem dL_law_534 : decode cL_law 534 = .ok (.if_icmp .eq 161, 3) := by decide +kernel
theorem dL_law_537 : decode cL_law 537 = .ok (.iconst 0, 1) := by decide +kernel
theorem dL_law_538 : decode cL_law 538 = .ok (.ireturn, 1) := by decide +kernel
theorem dL_law_539 : decode cL_law 539 = .ok (.aload_n 1, 1) := by decide +kernel
theorem dL_law_540 : decode cL_law 540 = .ok (.aload_n 0, 1) := by decide +kernel
theorem dL_law_541 : decode cL_law 541 = .ok (.iload_n 3, 1) := by decide +kernel
theorem dL_law_542 : decode cL_law 542 = .ok (.iconst 1, 1) := by decide +kernel
theorem dL_law_543 : decode cL_law 543 = .ok (.iadd, 1) := by decide +kernel
theorem dL_law_544 : decode cL_law 544 = .ok (.iaload, 1) := by decide +kernel
theorem dL_law_545 : decode cL_law 545 = .ok (.aload_n 0, 1) := by decide +kernel
theorem dL_law_546 : decode cL_law 546 = .ok (.iload_n 3, 1) := by decide +kernel
theorem dL_law_547 : decode cL_law 547 = .ok (.iconst 2, 1) := by decide +kernel
theorem dL_law_548 : decode cL_law 548 = .ok (.iadd, 1) := by decide +kernel
theorem dL_law_549 : decode cL_law 549 = .ok (.iaload, 1) := by decide +kernel
theorem dL_law_550 : decode cL_law 550 = .ok (.invokevirtual 70, 3) := by decide +kernel
theorem dL_law_553 : decode cL_law 553 = .ok (.aload_n 2, 1) := by decide +kernel
theorem dL_law_554 : decode cL_law 554 = .ok (.aload_n 0, 1) := by decide +kernel
theorem dL_law_555 : decode cL_law 555 = .ok (.iload_n 3, 1) := by decide +kernel
theorem dL_law_556 : decode cL_law 556 = .ok (.iconst 1, 1) := by decide +kernel
theorem dL_law_557 : decode cL_law 557 = .ok (.iadd, 1) := by decide +kernel
theorem dL_law_558 : decode cL_law 558 = .ok (.iaload, 1) := by decide +kernel
theorem dL_law_559 : decode cL_law 559 = .ok (.aload_n 0, 1) := by decide +kernel
theorem dL_law_560 : decode cL_law 560 = .ok (.iload_n 3, 1) := by decide +kernel
theorem dL_law_561 : decode cL_law 561 = .ok (.iconst 2, 1) := by decide +kernel
theorem dL_law_562 : decode cL_law 562 = .ok (.iadd, 1) := by decide +kernel
theorem dL_law_563 : decode cL_law 563 = .ok (.iaload, 1) := by decide +kernel
theorem dL_law_564 : decode cL_law 564 = .ok (.invokevirtual 73, 3) := by decide +kernel
theorem dL_law_567 : decode cL_law 567 = .ok (.if_icmp .eq 128, 3) := by decide +kernel
theorem dL_law_570 : decode cL_law 570 = .ok (.iconst 0, 1) := by decide +kernel
theorem dL_law_571 : decode cL_law 571 = .ok (.ireturn, 1) := by decide +kernel
theorem dL_law_572 : decode cL_law 572 = .ok (.aload_n 1, 1) := by decide +kernel
theorem dL_law_573 : decode cL_law 573 = .ok (.aload_n 0, 1) := by decide +kernel
theorem dL_law_574 : decode cL_law 574 = .ok (.iload_n 3, 1) := by decide +kernel
theorem dL_law_575 : decode cL_law 575 = .ok (.iconst 1, 1) := by decide +kernel
theorem dL_law_576 : decode cL_law 576 = .ok (.iadd, 1) := by decide +kernel
theorem dL_law_577 : decode cL_law 577 = .ok (.iaload, 1) := by decide +kernel
theorem dL_law_578 : decode cL_law 578 = .ok (.aload_n 0, 1) := by decide +kernel
theorem dL_law_579 : decode cL_law 579 = .ok (.iload_n 3, 1) := by decide +kernel
theorem dL_law_580 : decode cL_law 580 = .ok (.iconst 2, 1) := by decide +kernel
theorem dL_law_581 : decode cL_law 581 = .ok (.iadd, 1) := by decide +kernel
theorem dL_law_582 : decode cL_law 582 = .ok (.iaload, 1) := by decide +kernel
theorem dL_law_583 : decode cL_law 583 = .ok (.invokevirtual 74, 3) := by decide +kernel
theorem dL_law_586 : decode cL_law 586 = .ok (.aload_n 2, 1) := by decide +kernel
theorem dL_law_587 : decode cL_law 587 = .ok (.aload_n 0, 1) := by decide +kernel
theorem dL_law_588 : decode cL_law 588 = .ok (.iload_n 3, 1) := by decide +kernel
theorem dL_law_589 : decode cL_law 589 = .ok (.iconst 1, 1) := by decide +kernel
theorem dL_law_590 : decode cL_law 590 = .ok (.iadd, 1) := by decide +kernel
theorem dL_law_591 : decode cL_law 591 = .ok (.iaload, 1) := by decide +kernel
theorem dL_law_592 : decode cL_law 592 = .ok (.aload_n 0, 1) := by decide +kernel
theorem dL_law_593 : decode cL_law 593 = .ok (.iload_n 3, 1) := by decide +kernel
theorem dL_law_594 : decode cL_law 594 = .ok (.iconst 2, 1) := by decide +kernel
theorem dL_law_595 : decode cL_law 595 = .ok (.iadd, 1) := by decide +kernel
theorem dL_law_596 : decode cL_law 596 = .ok (.iaload, 1) := by decide +kernel
theorem dL_law_597 : decode cL_law 597 = .ok (.invokevirtual 77, 3) := by decide +kernel
theorem dL_law_600 : decode cL_law 600 = .ok (.if_icmp .eq 95, 3) := by decide +kernel
theorem dL_law_603 : decode cL_law 603 = .ok (.iconst 0, 1) := by decide +kernel
theorem dL_law_604 : decode cL_law 604 = .ok (.ireturn, 1) := by decide +kernel
theorem dL_law_605 : decode cL_law 605 = .ok (.aload_n 1, 1) := by decide +kernel
theorem dL_law_606 : decode cL_law 606 = .ok (.aload_n 0, 1) := by decide +kernel
theorem dL_law_607 : decode cL_law 607 = .ok (.iload_n 3, 1) := by decide +kernel
theorem dL_law_608 : decode cL_law 608 = .ok (.iconst 1, 1) := by decide +kernel
theorem dL_law_609 : decode cL_law 609 = .ok (.iadd, 1) := by decide +kernel
theorem dL_law_610 : decode cL_law 610 = .ok (.iaload, 1) := by decide +kernel
theorem dL_law_611 : decode cL_law 611 = .ok (.i2l, 1) := by decide +kernel
theorem dL_law_612 : decode cL_law 612 = .ok (.bipush 32, 2) := by decide +kernel
theorem dL_law_614 : decode cL_law 614 = .ok (.lshl, 1) := by decide +kernel
theorem dL_law_615 : decode cL_law 615 = .ok (.aload_n 0, 1) := by decide +kernel
theorem dL_law_616 : decode cL_law 616 = .ok (.iload_n 3, 1) := by decide +kernel
theorem dL_law_617 : decode cL_law 617 = .ok (.iconst 2, 1) := by decide +kernel
theorem dL_law_618 : decode cL_law 618 = .ok (.iadd, 1) := by decide +kernel
theorem dL_law_619 : decode cL_law 619 = .ok (.iaload, 1) := by decide +kernel
theorem dL_law_620 : decode cL_law 620 = .ok (.i2l, 1) := by decide +kernel
theorem dL_law_621 : decode cL_law 621 = .ok (.ldc2_w 78, 3) := by decide +kernel
theorem dL_law_624 : decode cL_law 624 = .ok (.land, 1) := by decide +kernel
theorem dL_law_625 : decode cL_law 625 = .ok (.lor, 1) := by decide +kernel
theorem dL_law_626 : decode cL_law 626 = .ok (.invokevirtual 80, 3) := by decide +kernel
theorem dL_law_629 : decode cL_law 629 = .ok (.aload_n 2, 1) := by decide +kernel
theorem dL_law_630 : decode cL_law 630 = .ok (.aload_n 0, 1) := by decide +kernel
theorem dL_law_631 : decode cL_law 631 = .ok (.iload_n 3, 1) := by decide +kernel
theorem dL_law_632 : decode cL_law 632 = .ok (.iconst 1, 1) := by decide +kernel
theorem dL_law_633 : decode cL_law 633 = .ok (.iadd, 1) := by decide +kernel
theorem dL_law_634 : decode cL_law 634 = .ok (.iaload, 1) := by decide +kernel
theorem dL_law_635 : decode cL_law 635 = .ok (.i2l, 1) := by decide +kernel
theorem dL_law_636 : decode cL_law 636 = .ok (.bipush 32, 2) := by decide +kernel
theorem dL_law_638 : decode cL_law 638 = .ok (.lshl, 1) := by decide +kernel
theorem dL_law_639 : decode cL_law 639 = .ok (.aload_n 0, 1) := by decide +kernel
theorem dL_law_640 : decode cL_law 640 = .ok (.iload_n 3, 1) := by decide +kernel
theorem dL_law_641 : decode cL_law 641 = .ok (.iconst 2, 1) := by decide +kernel
theorem dL_law_642 : decode cL_law 642 = .ok (.iadd, 1) := by decide +kernel
theorem dL_law_643 : decode cL_law 643 = .ok (.iaload, 1) := by decide +kernel
theorem dL_law_644 : decode cL_law 644 = .ok (.i2l, 1) := by decide +kernel
theorem dL_law_645 : decode cL_law 645 = .ok (.ldc2_w 78, 3) := by decide +kernel
theorem dL_law_648 : decode cL_law 648 = .ok (.land, 1) := by decide +kernel
theorem dL_law_649 : decode cL_law 649 = .ok (.lor, 1) := by decide +kernel
theorem dL_law_650 : decode cL_law 650 = .ok (.invokevirtual 84, 3) := by decide +kernel
theorem dL_law_653 : decode cL_law 653 = .ok (.if_icmp .eq 42, 3) := by decide +kernel
theorem dL_law_656 : decode cL_law 656 = .ok (.iconst 0, 1) := by decide +kernel
theorem dL_law_657 : decode cL_law 657 = .ok (.ireturn, 1) := by decide +kernel
theorem dL_law_658 : decode cL_law 658 = .ok (.aload_n 1, 1) := by decide +kernel
theorem dL_law_659 : decode cL_law 659 = .ok (.aload_n 0, 1) := by decide +kernel
theorem dL_law_660 : decode cL_law 660 = .ok (.iload_n 3, 1) := by decide +kernel
theorem dL_law_661 : decode cL_law 661 = .ok (.iconst 1, 1) := by decide +kernel
theorem dL_law_662 : decode cL_law 662 = .ok (.iadd, 1) := by decide +kernel
theorem dL_law_663 : decode cL_law 663 = .ok (.iaload, 1) := by decide +kernel
theorem dL_law_664 : decode cL_law 664 = .ok (.invokevirtual 85, 3) := by decide +kernel
theorem dL_law_667 : decode cL_law 667 = .ok (.aload_n 2, 1) := by decide +kernel
theorem dL_law_668 : decode cL_law 668 = .ok (.aload_n 0, 1) := by decide +kernel
theorem dL_law_669 : decode cL_law 669 = .ok (.iload_n 3, 1) := by decide +kernel
theorem dL_law_670 : decode cL_law 670 = .ok (.iconst 1, 1) := by decide +kernel
theorem dL_law_671 : decode cL_law 671 = .ok (.iadd, 1) := by decide +kernel
theorem dL_law_672 : decode cL_law 672 = .ok (.iaload, 1) := by decide +kernel
theorem dL_law_673 : decode cL_law 673 = .ok (.invokevirtual 89, 3) := by decide +kernel
theorem dL_law_676 : decode cL_law 676 = .ok (.lcmp, 1) := by decide +kernel
theorem dL_law_677 : decode cL_law 677 = .ok (.ifCond .eq 18, 3) := by decide +kernel
theorem dL_law_680 : decode cL_law 680 = .ok (.iconst 0, 1) := by decide +kernel
theorem dL_law_681 : decode cL_law 681 = .ok (.ireturn, 1) := by decide +kernel
theorem dL_law_682 : decode cL_law 682 = .ok (.aload_n 1, 1) := by decide +kernel
theorem dL_law_683 : decode cL_law 683 = .ok (.invokevirtual 90, 3) := by decide +kernel
theorem dL_law_686 : decode cL_law 686 = .ok (.aload_n 2, 1) := by decide +kernel
theorem dL_law_687 : decode cL_law 687 = .ok (.invokevirtual 93, 3) := by decide +kernel
theorem dL_law_690 : decode cL_law 690 = .ok (.if_icmp .eq 5, 3) := by decide +kernel
theorem dL_law_693 : decode cL_law 693 = .ok (.iconst 0, 1) := by decide +kernel
theorem dL_law_694 : decode cL_law 694 = .ok (.ireturn, 1) := by decide +kernel
theorem dL_law_695 : decode cL_law 695 = .ok (.iinc 3 5, 3) := by decide +kernel
theorem dL_law_698 : decode cL_law 698 = .ok (.goto (-680), 3) := by decide +kernel
theorem dL_law_701 : decode cL_law 701 = .ok (.iconst 1, 1) := by decide +kernel
theorem dL_law_702 : decode cL_law 702 = .ok (.ireturn, 1) := by decide +kernel
