theorem dX6_wear_0 : decode cX6_wear 0 = .ok (.aload_n 0, 1) := by decide +kernel
theorem dX6_wear_1 : decode cX6_wear 1 = .ok (.getfield 37, 3) := by decide +kernel
theorem dX6_wear_4 : decode cX6_wear 4 = .ok (.iconst 1, 1) := by decide +kernel
theorem dX6_wear_5 : decode cX6_wear 5 = .ok (.if_icmp .lt 8, 3) := by decide +kernel
theorem dX6_wear_8 : decode cX6_wear 8 = .ok (.iload_n 1, 1) := by decide +kernel
theorem dX6_wear_9 : decode cX6_wear 9 = .ok (.iload_n 2, 1) := by decide +kernel
theorem dX6_wear_10 : decode cX6_wear 10 = .ok (.if_icmp .gt 7, 3) := by decide +kernel
theorem dX6_wear_13 : decode cX6_wear 13 = .ok (.iconst 0, 1) := by decide +kernel
theorem dX6_wear_14 : decode cX6_wear 14 = .ok (.goto 18, 3) := by decide +kernel
theorem dX6_wear_17 : decode cX6_wear 17 = .ok (.iload_n 1, 1) := by decide +kernel
theorem dX6_wear_18 : decode cX6_wear 18 = .ok (.iload_n 2, 1) := by decide +kernel
theorem dX6_wear_19 : decode cX6_wear 19 = .ok (.isub, 1) := by decide +kernel
theorem dX6_wear_20 : decode cX6_wear 20 = .ok (.aload_n 0, 1) := by decide +kernel
theorem dX6_wear_21 : decode cX6_wear 21 = .ok (.getfield 37, 3) := by decide +kernel
theorem dX6_wear_24 : decode cX6_wear 24 = .ok (.iadd, 1) := by decide +kernel
theorem dX6_wear_25 : decode cX6_wear 25 = .ok (.iconst 1, 1) := by decide +kernel
theorem dX6_wear_26 : decode cX6_wear 26 = .ok (.isub, 1) := by decide +kernel
theorem dX6_wear_27 : decode cX6_wear 27 = .ok (.aload_n 0, 1) := by decide +kernel
theorem dX6_wear_28 : decode cX6_wear 28 = .ok (.getfield 37, 3) := by decide +kernel
theorem dX6_wear_31 : decode cX6_wear 31 = .ok (.idiv, 1) := by decide +kernel
theorem dX6_wear_32 : decode cX6_wear 32 = .ok (.ireturn, 1) := by decide +kernel
theorem dX7_init_0 : decode cX7_init 0 = .ok (.aload_n 0, 1) := by decide +kernel
theorem dX7_init_1 : decode cX7_init 1 = .ok (.invokespecial 3, 3) := by decide +kernel
theorem dX7_init_4 : decode cX7_init 4 = .ok (.return_, 1) := by decide +kernel
theorem dX7_verdict_0 : decode cX7_verdict 0 = .ok (.aload_n 1, 1) := by decide +kernel
theorem dX7_verdict_1 : decode cX7_verdict 1 = .ok (.dup, 1) := by decide +kernel
theorem dX7_verdict_2 : decode cX7_verdict 2 = .ok (.getfield 9, 3) := by decide +kernel
theorem dX7_verdict_5 : decode cX7_verdict 5 = .ok (.ldc2_w 13, 3) := by decide +kernel
theorem dX7_verdict_8 : decode cX7_verdict 8 = .ok (.ladd, 1) := by decide +kernel
theorem dX7_verdict_9 : decode cX7_verdict 9 = .ok (.putfield 9, 3) := by decide +kernel
theorem dX7_verdict_12 : decode cX7_verdict 12 = .ok (.aload_n 0, 1) := by decide +kernel
theorem dX7_verdict_13 : decode cX7_verdict 13 = .ok (.aload_n 1, 1) := by decide +kernel
theorem dX7_verdict_14 : decode cX7_verdict 14 = .ok (.iload_n 2, 1) := by decide +kernel
theorem dX7_verdict_15 : decode cX7_verdict 15 = .ok (.invokespecial 15, 3) := by decide +kernel
theorem dX7_verdict_18 : decode cX7_verdict 18 = .ok (.aload_n 1, 1) := by decide +kernel
theorem dX7_verdict_19 : decode cX7_verdict 19 = .ok (.getfield 19, 3) := by decide +kernel
theorem dX7_verdict_22 : decode cX7_verdict 22 = .ok (.iconst 2, 1) := by decide +kernel
theorem dX7_verdict_23 : decode cX7_verdict 23 = .ok (.aload_n 1, 1) := by decide +kernel
theorem dX7_verdict_24 : decode cX7_verdict 24 = .ok (.getfield 23, 3) := by decide +kernel
theorem dX7_verdict_27 : decode cX7_verdict 27 = .ok (.getfield 27, 3) := by decide +kernel
theorem dX7_verdict_30 : decode cX7_verdict 30 = .ok (.invokevirtual 33, 3) := by decide +kernel
theorem dX7_verdict_33 : decode cX7_verdict 33 = .ok (.invokestatic 39, 3) := by decide +kernel
theorem dX7_verdict_36 : decode cX7_verdict 36 = .ok (.iadd, 1) := by decide +kernel
theorem dX7_verdict_37 : decode cX7_verdict 37 = .ok (.ireturn, 1) := by decide +kernel
theorem dX8_init_0 : decode cX8_init 0 = .ok (.aload_n 0, 1) := by decide +kernel
theorem dX8_init_1 : decode cX8_init 1 = .ok (.invokespecial 1, 3) := by decide +kernel
theorem dX8_init_4 : decode cX8_init 4 = .ok (.return_, 1) := by decide +kernel
theorem dX8_verdict_0 : decode cX8_verdict 0 = .ok (.aload_n 1, 1) := by decide +kernel
theorem dX8_verdict_1 : decode cX8_verdict 1 = .ok (.dup, 1) := by decide +kernel
theorem dX8_verdict_2 : decode cX8_verdict 2 = .ok (.getfield 7, 3) := by decide +kernel
theorem dX8_verdict_5 : decode cX8_verdict 5 = .ok (.ldc2_w 13, 3) := by decide +kernel
theorem dX8_verdict_8 : decode cX8_verdict 8 = .ok (.ladd, 1) := by decide +kernel
theorem dX8_verdict_9 : decode cX8_verdict 9 = .ok (.putfield 7, 3) := by decide +kernel
theorem dX8_verdict_12 : decode cX8_verdict 12 = .ok (.aload_n 0, 1) := by decide +kernel
theorem dX8_verdict_13 : decode cX8_verdict 13 = .ok (.aload_n 1, 1) := by decide +kernel
theorem dX8_verdict_14 : decode cX8_verdict 14 = .ok (.iload_n 2, 1) := by decide +kernel
theorem dX8_verdict_15 : decode cX8_verdict 15 = .ok (.invokespecial 15, 3) := by decide +kernel
theorem dX8_verdict_18 : decode cX8_verdict 18 = .ok (.iload_n 2, 1) := by decide +kernel
theorem dX8_verdict_19 : decode cX8_verdict 19 = .ok (.iadd, 1) := by decide +kernel
theorem dX8_verdict_20 : decode cX8_verdict 20 = .ok (.ireturn, 1) := by decide +kernel
theorem dX9_init_0 : decode cX9_init 0 = .ok (.aload_n 0, 1) := by decide +kernel
theorem dX9_init_1 : decode cX9_init 1 = .ok (.invokespecial 1, 3) := by decide +kernel
theorem dX9_init_4 : decode cX9_init 4 = .ok (.return_, 1) := by decide +kernel
theorem dX9_verdict_0 : decode cX9_verdict 0 = .ok (.aload_n 1, 1) := by decide +kernel
theorem dX9_verdict_1 : decode cX9_verdict 1 = .ok (.dup, 1) := by decide +kernel
theorem dX9_verdict_2 : decode cX9_verdict 2 = .ok (.getfield 7, 3) := by decide +kernel
theorem dX9_verdict_5 : decode cX9_verdict 5 = .ok (.ldc2_w 13, 3) := by decide +kernel
theorem dX9_verdict_8 : decode cX9_verdict 8 = .ok (.ladd, 1) := by decide +kernel
theorem dX9_verdict_9 : decode cX9_verdict 9 = .ok (.putfield 7, 3) := by decide +kernel
theorem dX9_verdict_12 : decode cX9_verdict 12 = .ok (.aload_n 0, 1) := by decide +kernel
theorem dX9_verdict_13 : decode cX9_verdict 13 = .ok (.aload_n 1, 1) := by decide +kernel
theorem dX9_verdict_14 : decode cX9_verdict 14 = .ok (.iload_n 2, 1) := by decide +kernel
theorem dX9_verdict_15 : decode cX9_verdict 15 = .ok (.invokespecial 15, 3) := by decide +kernel
theorem dX9_verdict_18 : decode cX9_verdict 18 = .ok (.aload_n 1, 1) := by decide +kernel
theorem dX9_verdict_19 : decode cX9_verdict 19 = .ok (.iload_n 2, 1) := by decide +kernel
theorem dX9_verdict_20 : decode cX9_verdict 20 = .ok (.invokevirtual 19, 3) := by decide +kernel
theorem dX9_verdict_23 : decode cX9_verdict 23 = .ok (.isub, 1) := by decide +kernel
theorem dX9_verdict_24 : decode cX9_verdict 24 = .ok (.ireturn, 1) := by decide +kernel
theorem dX10_init_0 : decode cX10_init 0 = .ok (.aload_n 0, 1) := by decide +kernel
theorem dX10_init_1 : decode cX10_init 1 = .ok (.invokespecial 3, 3) := by decide +kernel
theorem dX10_init_4 : decode cX10_init 4 = .ok (.aload_n 0, 1) := by decide +kernel
theorem dX10_init_5 : decode cX10_init 5 = .ok (.new 9, 3) := by decide +kernel
theorem dX10_init_8 : decode cX10_init 8 = .ok (.dup, 1) := by decide +kernel
theorem dX10_init_9 : decode cX10_init 9 = .ok (.invokespecial 11, 3) := by decide +kernel
theorem dX10_init_12 : decode cX10_init 12 = .ok (.putfield 12, 3) := by decide +kernel
theorem dX10_init_15 : decode cX10_init 15 = .ok (.aload_n 0, 1) := by decide +kernel
theorem dX10_init_16 : decode cX10_init 16 = .ok (.new 16, 3) := by decide +kernel
theorem dX10_init_19 : decode cX10_init 19 = .ok (.dup, 1) := by decide +kernel
theorem dX10_init_20 : decode cX10_init 20 = .ok (.invokespecial 18, 3) := by decide +kernel
theorem dX10_init_23 : decode cX10_init 23 = .ok (.putfield 19, 3) := by decide +kernel
theorem dX10_init_26 : decode cX10_init 26 = .ok (.aload_n 0, 1) := by decide +kernel
theorem dX10_init_27 : decode cX10_init 27 = .ok (.new 16, 3) := by decide +kernel
theorem dX10_init_30 : decode cX10_init 30 = .ok (.dup, 1) := by decide +kernel
theorem dX10_init_31 : decode cX10_init 31 = .ok (.invokespecial 18, 3) := by decide +kernel
theorem dX10_init_34 : decode cX10_init 34 = .ok (.putfield 23, 3) := by decide +kernel
theorem dX10_init_37 : decode cX10_init 37 = .ok (.aload_n 0, 1) := by decide +kernel
theorem dX10_init_38 : decode cX10_init 38 = .ok (.new 26, 3) := by decide +kernel
theorem dX10_init_41 : decode cX10_init 41 = .ok (.dup, 1) := by decide +kernel
theorem dX10_init_42 : decode cX10_init 42 = .ok (.invokespecial 28, 3) := by decide +kernel
theorem dX10_init_45 : decode cX10_init 45 = .ok (.putfield 29, 3) := by decide +kernel
theorem dX10_init_48 : decode cX10_init 48 = .ok (.aload_n 0, 1) := by decide +kernel
theorem dX10_init_49 : decode cX10_init 49 = .ok (.new 26, 3) := by decide +kernel
theorem dX10_init_52 : decode cX10_init 52 = .ok (.dup, 1) := by decide +kernel
theorem dX10_init_53 : decode cX10_init 53 = .ok (.invokespecial 28, 3) := by decide +kernel
theorem dX10_init_56 : decode cX10_init 56 = .ok (.putfield 33, 3) := by decide +kernel
theorem dX10_init_59 : decode cX10_init 59 = .ok (.aload_n 0, 1) := by decide +kernel
theorem dX10_init_60 : decode cX10_init 60 = .ok (.new 26, 3) := by decide +kernel
theorem dX10_init_63 : decode cX10_init 63 = .ok (.dup, 1) := by decide +kernel
theorem dX10_init_64 : decode cX10_init 64 = .ok (.invokespecial 28, 3) := by decide +kernel
theorem dX10_init_67 : decode cX10_init 67 = .ok (.putfield 36, 3) := by decide +kernel
theorem dX10_init_70 : decode cX10_init 70 = .ok (.aload_n 0, 1) := by decide +kernel
theorem dX10_init_71 : decode cX10_init 71 = .ok (.new 39, 3) := by decide +kernel
theorem dX10_init_74 : decode cX10_init 74 = .ok (.dup, 1) := by decide +kernel
theorem dX10_init_75 : decode cX10_init 75 = .ok (.invokespecial 41, 3) := by decide +kernel
theorem dX10_init_78 : decode cX10_init 78 = .ok (.putfield 42, 3) := by decide +kernel
theorem dX10_init_81 : decode cX10_init 81 = .ok (.aload_n 0, 1) := by decide +kernel
theorem dX10_init_82 : decode cX10_init 82 = .ok (.bipush 6, 2) := by decide +kernel
theorem dX10_init_84 : decode cX10_init 84 = .ok (.anewarray 46, 3) := by decide +kernel
theorem dX10_init_87 : decode cX10_init 87 = .ok (.putfield 48, 3) := by decide +kernel
theorem dX10_init_90 : decode cX10_init 90 = .ok (.aload_n 0, 1) := by decide +kernel
theorem dX10_init_91 : decode cX10_init 91 = .ok (.bipush 10, 2) := by decide +kernel
theorem dX10_init_93 : decode cX10_init 93 = .ok (.newarray .int, 2) := by decide +kernel
theorem dX10_init_95 : decode cX10_init 95 = .ok (.putfield 52, 3) := by decide +kernel
theorem dX10_init_98 : decode cX10_init 98 = .ok (.aload_n 0, 1) := by decide +kernel
theorem dX10_init_99 : decode cX10_init 99 = .ok (.bipush 6, 2) := by decide +kernel
theorem dX10_init_101 : decode cX10_init 101 = .ok (.newarray .int, 2) := by decide +kernel
theorem dX10_init_103 : decode cX10_init 103 = .ok (.putfield 56, 3) := by decide +kernel
theorem dX10_init_106 : decode cX10_init 106 = .ok (.aload_n 0, 1) := by decide +kernel
theorem dX10_init_107 : decode cX10_init 107 = .ok (.bipush 6, 2) := by decide +kernel
theorem dX10_init_109 : decode cX10_init 109 = .ok (.newarray .int, 2) := by decide +kernel
theorem dX10_init_111 : decode cX10_init 111 = .ok (.putfield 59, 3) := by decide +kernel
theorem dX10_init_114 : decode cX10_init 114 = .ok (.aload_n 0, 1) := by decide +kernel
theorem dX10_init_115 : decode cX10_init 115 = .ok (.bipush 6, 2) := by decide +kernel
theorem dX10_init_117 : decode cX10_init 117 = .ok (.newarray .int, 2) := by decide +kernel
theorem dX10_init_119 : decode cX10_init 119 = .ok (.putfield 62, 3) := by decide +kernel
theorem dX10_init_122 : decode cX10_init 122 = .ok (.aload_n 0, 1) := by decide +kernel
theorem dX10_init_123 : decode cX10_init 123 = .ok (.getfield 48, 3) := by decide +kernel
theorem dX10_init_126 : decode cX10_init 126 = .ok (.iconst 0, 1) := by decide +kernel
theorem dX10_init_127 : decode cX10_init 127 = .ok (.new 46, 3) := by decide +kernel
theorem dX10_init_130 : decode cX10_init 130 = .ok (.dup, 1) := by decide +kernel
theorem dX10_init_131 : decode cX10_init 131 = .ok (.invokespecial 65, 3) := by decide +kernel
theorem dX10_init_134 : decode cX10_init 134 = .ok (.aastore, 1) := by decide +kernel
theorem dX10_init_135 : decode cX10_init 135 = .ok (.aload_n 0, 1) := by decide +kernel
theorem dX10_init_136 : decode cX10_init 136 = .ok (.getfield 48, 3) := by decide +kernel
theorem dX10_init_139 : decode cX10_init 139 = .ok (.iconst 1, 1) := by decide +kernel
theorem dX10_init_140 : decode cX10_init 140 = .ok (.new 66, 3) := by decide +kernel
theorem dX10_init_143 : decode cX10_init 143 = .ok (.dup, 1) := by decide +kernel
theorem dX10_init_144 : decode cX10_init 144 = .ok (.invokespecial 68, 3) := by decide +kernel
theorem dX10_init_147 : decode cX10_init 147 = .ok (.aastore, 1) := by decide +kernel
theorem dX10_init_148 : decode cX10_init 148 = .ok (.aload_n 0, 1) := by decide +kernel
theorem dX10_init_149 : decode cX10_init 149 = .ok (.getfield 48, 3) := by decide +kernel
theorem dX10_init_152 : decode cX10_init 152 = .ok (.iconst 2, 1) := by decide +kernel
theorem dX10_init_153 : decode cX10_init 153 = .ok (.new 69, 3) := by decide +kernel
theorem dX10_init_156 : decode cX10_init 156 = .ok (.dup, 1) := by decide +kernel
theorem dX10_init_157 : decode cX10_init 157 = .ok (.invokespecial 71, 3) := by decide +kernel
theorem dX10_init_160 : decode cX10_init 160 = .ok (.aastore, 1) := by decide +kernel
theorem dX10_init_161 : decode cX10_init 161 = .ok (.aload_n 0, 1) := by decide +kernel
theorem dX10_init_162 : decode cX10_init 162 = .ok (.getfield 48, 3) := by decide +kernel
theorem dX10_init_165 : decode cX10_init 165 = .ok (.iconst 3, 1) := by decide +kernel
theorem dX10_init_166 : decode cX10_init 166 = .ok (.new 72, 3) := by decide +kernel
theorem dX10_init_169 : decode cX10_init 169 = .ok (.dup, 1) := by decide +kernel
theorem dX10_init_170 : decode cX10_init 170 = .ok (.invokespecial 74, 3) := by decide +kernel
theorem dX10_init_173 : decode cX10_init 173 = .ok (.aastore, 1) := by decide +kernel
theorem dX10_init_174 : decode cX10_init 174 = .ok (.aload_n 0, 1) := by decide +kernel
theorem dX10_init_175 : decode cX10_init 175 = .ok (.getfield 48, 3) := by decide +kernel
theorem dX10_init_178 : decode cX10_init 178 = .ok (.iconst 4, 1) := by decide +kernel
theorem dX10_init_179 : decode cX10_init 179 = .ok (.new 75, 3) := by decide +kernel
theorem dX10_init_182 : decode cX10_init 182 = .ok (.dup, 1) := by decide +kernel
theorem dX10_init_183 : decode cX10_init 183 = .ok (.invokespecial 77, 3) := by decide +kernel
theorem dX10_init_186 : decode cX10_init 186 = .ok (.aastore, 1) := by decide +kernel
theorem dX10_init_187 : decode cX10_init 187 = .ok (.aload_n 0, 1) := by decide +kernel
theorem dX10_init_188 : decode cX10_init 188 = .ok (.getfield 48, 3) := by decide +kernel
theorem dX10_init_191 : decode cX10_init 191 = .ok (.iconst 5, 1) := by decide +kernel
theorem dX10_init_192 : decode cX10_init 192 = .ok (.new 78, 3) := by decide +kernel
theorem dX10_init_195 : decode cX10_init 195 = .ok (.dup, 1) := by decide +kernel
theorem dX10_init_196 : decode cX10_init 196 = .ok (.invokespecial 80, 3) := by decide +kernel
theorem dX10_init_199 : decode cX10_init 199 = .ok (.aastore, 1) := by decide +kernel
theorem dX10_init_200 : decode cX10_init 200 = .ok (.aload_n 0, 1) := by decide +kernel
theorem dX10_init_201 : decode cX10_init 201 = .ok (.invokevirtual 81, 3) := by decide +kernel
theorem dX10_init_204 : decode cX10_init 204 = .ok (.return_, 1) := by decide +kernel
theorem dX10_type_0 : decode cX10_type 0 = .ok (.iload_n 1, 1) := by decide +kernel
theorem dX10_type_1 : decode cX10_type 1 = .ok (.ifCond .lt 10, 3) := by decide +kernel
theorem dX10_type_4 : decode cX10_type 4 = .ok (.iload_n 1, 1) := by decide +kernel
theorem dX10_type_5 : decode cX10_type 5 = .ok (.sipush 255, 3) := by decide +kernel
theorem dX10_type_8 : decode cX10_type 8 = .ok (.if_icmp .le 5, 3) := by decide +kernel
theorem dX10_type_11 : decode cX10_type 11 = .ok (.iconst (-1), 1) := by decide +kernel
theorem dX10_type_12 : decode cX10_type 12 = .ok (.ireturn, 1) := by decide +kernel
theorem dX10_type_13 : decode cX10_type 13 = .ok (.aload_n 0, 1) := by decide +kernel
theorem dX10_type_14 : decode cX10_type 14 = .ok (.getfield 12, 3) := by decide +kernel
theorem dX10_type_17 : decode cX10_type 17 = .ok (.iload_n 1, 1) := by decide +kernel
theorem dX10_type_18 : decode cX10_type 18 = .ok (.invokevirtual 84, 3) := by decide +kernel
theorem dX10_type_21 : decode cX10_type 21 = .ok (.ifCond .eq 13, 3) := by decide +kernel
theorem dX10_type_24 : decode cX10_type 24 = .ok (.aload_n 0, 1) := by decide +kernel
theorem dX10_type_25 : decode cX10_type 25 = .ok (.getfield 12, 3) := by decide +kernel
theorem dX10_type_28 : decode cX10_type 28 = .ok (.getfield 88, 3) := by decide +kernel
theorem dX10_type_31 : decode cX10_type 31 = .ok (.goto 5, 3) := by decide +kernel
theorem dX10_type_34 : decode cX10_type 34 = .ok (.bipush (-3), 2) := by decide +kernel
theorem dX10_type_36 : decode cX10_type 36 = .ok (.ireturn, 1) := by decide +kernel
theorem dX10_clear_0 : decode cX10_clear 0 = .ok (.aload_n 0, 1) := by decide +kernel
theorem dX10_clear_1 : decode cX10_clear 1 = .ok (.getfield 12, 3) := by decide +kernel
theorem dX10_clear_4 : decode cX10_clear 4 = .ok (.getfield 88, 3) := by decide +kernel
theorem dX10_clear_7 : decode cX10_clear 7 = .ok (.istore_n 1, 1) := by decide +kernel
theorem dX10_clear_8 : decode cX10_clear 8 = .ok (.aload_n 0, 1) := by decide +kernel
theorem dX10_clear_9 : decode cX10_clear 9 = .ok (.getfield 12, 3) := by decide +kernel
theorem dX10_clear_12 : decode cX10_clear 12 = .ok (.invokevirtual 92, 3) := by decide +kernel
theorem dX10_clear_15 : decode cX10_clear 15 = .ok (.iload_n 1, 1) := by decide +kernel
theorem dX10_clear_16 : decode cX10_clear 16 = .ok (.ireturn, 1) := by decide +kernel
theorem dX10_suit_0 : decode cX10_suit 0 = .ok (.aload_n 0, 1) := by decide +kernel
theorem dX10_suit_1 : decode cX10_suit 1 = .ok (.getfield 12, 3) := by decide +kernel
theorem dX10_suit_4 : decode cX10_suit 4 = .ok (.aload_n 0, 1) := by decide +kernel
theorem dX10_suit_5 : decode cX10_suit 5 = .ok (.getfield 23, 3) := by decide +kernel
theorem dX10_suit_8 : decode cX10_suit 8 = .ok (.invokevirtual 95, 3) := by decide +kernel
theorem dX10_suit_11 : decode cX10_suit 11 = .ok (.istore_n 1, 1) := by decide +kernel
theorem dX10_suit_12 : decode cX10_suit 12 = .ok (.iload_n 1, 1) := by decide +kernel
theorem dX10_suit_13 : decode cX10_suit 13 = .ok (.ifCond .ge 5, 3) := by decide +kernel
theorem dX10_suit_16 : decode cX10_suit 16 = .ok (.iload_n 1, 1) := by decide +kernel
theorem dX10_suit_17 : decode cX10_suit 17 = .ok (.ireturn, 1) := by decide +kernel
theorem dX10_suit_18 : decode cX10_suit 18 = .ok (.aload_n 0, 1) := by decide +kernel
theorem dX10_suit_19 : decode cX10_suit 19 = .ok (.getfield 23, 3) := by decide +kernel
theorem dX10_suit_22 : decode cX10_suit 22 = .ok (.invokevirtual 99, 3) := by decide +kernel
theorem dX10_suit_25 : decode cX10_suit 25 = .ok (.aload_n 0, 1) := by decide +kernel
theorem dX10_suit_26 : decode cX10_suit 26 = .ok (.getfield 19, 3) := by decide +kernel
theorem dX10_suit_29 : decode cX10_suit 29 = .ok (.astore_n 2, 1) := by decide +kernel
theorem dX10_suit_30 : decode cX10_suit 30 = .ok (.aload_n 0, 1) := by decide +kernel
theorem dX10_suit_31 : decode cX10_suit 31 = .ok (.aload_n 0, 1) := by decide +kernel
theorem dX10_suit_32 : decode cX10_suit 32 = .ok (.getfield 23, 3) := by decide +kernel
theorem dX10_suit_35 : decode cX10_suit 35 = .ok (.putfield 19, 3) := by decide +kernel
theorem dX10_suit_38 : decode cX10_suit 38 = .ok (.aload_n 0, 1) := by decide +kernel
theorem dX10_suit_39 : decode cX10_suit 39 = .ok (.aload_n 2, 1) := by decide +kernel
theorem dX10_suit_40 : decode cX10_suit 40 = .ok (.putfield 23, 3) := by decide +kernel
theorem dX10_suit_43 : decode cX10_suit 43 = .ok (.aload_n 0, 1) := by decide +kernel
theorem dX10_suit_44 : decode cX10_suit 44 = .ok (.getfield 12, 3) := by decide +kernel
theorem dX10_suit_47 : decode cX10_suit 47 = .ok (.invokevirtual 92, 3) := by decide +kernel
theorem dX10_suit_50 : decode cX10_suit 50 = .ok (.aload_n 0, 1) := by decide +kernel
theorem dX10_suit_51 : decode cX10_suit 51 = .ok (.invokevirtual 81, 3) := by decide +kernel
theorem dX10_suit_54 : decode cX10_suit 54 = .ok (.iload_n 1, 1) := by decide +kernel
theorem dX10_suit_55 : decode cX10_suit 55 = .ok (.ireturn, 1) := by decide +kernel
theorem dX10_good_0 : decode cX10_good 0 = .ok (.aload_n 0, 1) := by decide +kernel
theorem dX10_good_1 : decode cX10_good 1 = .ok (.iload_n 1, 1) := by decide +kernel
theorem dX10_good_2 : decode cX10_good 2 = .ok (.invokevirtual 102, 3) := by decide +kernel
theorem dX10_good_5 : decode cX10_good 5 = .ok (.ifCond .eq 12, 3) := by decide +kernel
theorem dX10_good_8 : decode cX10_good 8 = .ok (.iload_n 2, 1) := by decide +kernel
theorem dX10_good_9 : decode cX10_good 9 = .ok (.ifCond .lt 8, 3) := by decide +kernel
theorem dX10_good_12 : decode cX10_good 12 = .ok (.iload_n 2, 1) := by decide +kernel
theorem dX10_good_13 : decode cX10_good 13 = .ok (.iconst 2, 1) := by decide +kernel
theorem dX10_good_14 : decode cX10_good 14 = .ok (.if_icmp .le 5, 3) := by decide +kernel
theorem dX10_good_17 : decode cX10_good 17 = .ok (.iconst (-1), 1) := by decide +kernel
theorem dX10_good_18 : decode cX10_good 18 = .ok (.ireturn, 1) := by decide +kernel
theorem dX10_good_19 : decode cX10_good 19 = .ok (.iload_n 2, 1) := by decide +kernel
theorem dX10_good_20 : decode cX10_good 20 = .ok (.iconst 2, 1) := by decide +kernel
theorem dX10_good_21 : decode cX10_good 21 = .ok (.if_icmp .ne 14, 3) := by decide +kernel
theorem dX10_good_24 : decode cX10_good 24 = .ok (.aload_n 0, 1) := by decide +kernel
theorem dX10_good_25 : decode cX10_good 25 = .ok (.getfield 29, 3) := by decide +kernel
theorem dX10_good_28 : decode cX10_good 28 = .ok (.iload_n 1, 1) := by decide +kernel
theorem dX10_good_29 : decode cX10_good 29 = .ok (.invokevirtual 105, 3) := by decide +kernel
theorem dX10_good_32 : decode cX10_good 32 = .ok (.goto 12, 3) := by decide +kernel
theorem dX10_good_35 : decode cX10_good 35 = .ok (.aload_n 0, 1) := by decide +kernel
theorem dX10_good_36 : decode cX10_good 36 = .ok (.getfield 19, 3) := by decide +kernel
theorem dX10_good_39 : decode cX10_good 39 = .ok (.iload_n 2, 1) := by decide +kernel
theorem dX10_good_40 : decode cX10_good 40 = .ok (.iload_n 1, 1) := by decide +kernel
theorem dX10_good_41 : decode cX10_good 41 = .ok (.invokevirtual 109, 3) := by decide +kernel
theorem dX10_good_44 : decode cX10_good 44 = .ok (.ireturn, 1) := by decide +kernel
theorem dX10_values_0 : decode cX10_values 0 = .ok (.iload_n 1, 1) := by decide +kernel
theorem dX10_values_1 : decode cX10_values 1 = .ok (.invokestatic 113, 3) := by decide +kernel
theorem dX10_values_4 : decode cX10_values 4 = .ok (.ifCond .eq 18, 3) := by decide +kernel
theorem dX10_values_7 : decode cX10_values 7 = .ok (.iload_n 2, 1) := by decide +kernel
theorem dX10_values_8 : decode cX10_values 8 = .ok (.ifCond .lt 14, 3) := by decide +kernel
theorem dX10_values_11 : decode cX10_values 11 = .ok (.iload_n 2, 1) := by decide +kernel
theorem dX10_values_12 : decode cX10_values 12 = .ok (.aload_n 0, 1) := by decide +kernel
theorem dX10_values_13 : decode cX10_values 13 = .ok (.getfield 19, 3) := by decide +kernel
theorem dX10_values_16 : decode cX10_values 16 = .ok (.invokevirtual 116, 3) := by decide +kernel
theorem dX10_values_19 : decode cX10_values 19 = .ok (.if_icmp .le 5, 3) := by decide +kernel
theorem dX10_values_22 : decode cX10_values 22 = .ok (.iconst (-1), 1) := by decide +kernel
theorem dX10_values_23 : decode cX10_values 23 = .ok (.ireturn, 1) := by decide +kernel
theorem dX10_values_24 : decode cX10_values 24 = .ok (.aload_n 0, 1) := by decide +kernel
theorem dX10_values_25 : decode cX10_values 25 = .ok (.getfield 19, 3) := by decide +kernel
theorem dX10_values_28 : decode cX10_values 28 = .ok (.iload_n 1, 1) := by decide +kernel
theorem dX10_values_29 : decode cX10_values 29 = .ok (.iload_n 2, 1) := by decide +kernel
theorem dX10_values_30 : decode cX10_values 30 = .ok (.invokevirtual 120, 3) := by decide +kernel
theorem dX10_values_33 : decode cX10_values 33 = .ok (.ireturn, 1) := by decide +kernel
theorem dX10_now_0 : decode cX10_now 0 = .ok (.iload_n 1, 1) := by decide +kernel
theorem dX10_now_1 : decode cX10_now 1 = .ok (.ifCond .lt 8, 3) := by decide +kernel
theorem dX10_now_4 : decode cX10_now 4 = .ok (.iload_n 1, 1) := by decide +kernel
theorem dX10_now_5 : decode cX10_now 5 = .ok (.iconst 4, 1) := by decide +kernel
theorem dX10_now_6 : decode cX10_now 6 = .ok (.if_icmp .le 5, 3) := by decide +kernel
theorem dX10_now_9 : decode cX10_now 9 = .ok (.iconst (-1), 1) := by decide +kernel
theorem dX10_now_10 : decode cX10_now 10 = .ok (.ireturn, 1) := by decide +kernel
theorem dX10_now_11 : decode cX10_now 11 = .ok (.iload_n 1, 1) := by decide +kernel
theorem dX10_now_12 : decode cX10_now 12 = .ok (.iconst 3, 1) := by decide +kernel
theorem dX10_now_13 : decode cX10_now 13 = .ok (.if_icmp .ne 11, 3) := by decide +kernel
theorem dX10_now_16 : decode cX10_now 16 = .ok (.aload_n 0, 1) := by decide +kernel
theorem dX10_now_17 : decode cX10_now 17 = .ok (.getfield 29, 3) := by decide +kernel
theorem dX10_now_20 : decode cX10_now 20 = .ok (.getfield 123, 3) := by decide +kernel
theorem dX10_now_23 : decode cX10_now 23 = .ok (.ireturn, 1) := by decide +kernel
theorem dX10_now_24 : decode cX10_now 24 = .ok (.iload_n 1, 1) := by decide +kernel
theorem dX10_now_25 : decode cX10_now 25 = .ok (.iconst 4, 1) := by decide +kernel
theorem dX10_now_26 : decode cX10_now 26 = .ok (.if_icmp .ne 10, 3) := by decide +kernel
theorem dX10_now_29 : decode cX10_now 29 = .ok (.aload_n 0, 1) := by decide +kernel
theorem dX10_now_30 : decode cX10_now 30 = .ok (.getfield 126, 3) := by decide +kernel
theorem dX10_now_33 : decode cX10_now 33 = .ok (.goto 18, 3) := by decide +kernel
theorem dX10_now_36 : decode cX10_now 36 = .ok (.aload_n 0, 1) := by decide +kernel
theorem dX10_now_37 : decode cX10_now 37 = .ok (.getfield 29, 3) := by decide +kernel
theorem dX10_now_40 : decode cX10_now 40 = .ok (.iload_n 1, 1) := by decide +kernel
theorem dX10_now_41 : decode cX10_now 41 = .ok (.aload_n 0, 1) := by decide +kernel
theorem dX10_now_42 : decode cX10_now 42 = .ok (.getfield 19, 3) := by decide +kernel
theorem dX10_now_45 : decode cX10_now 45 = .ok (.getfield 129, 3) := by decide +kernel
theorem dX10_now_48 : decode cX10_now 48 = .ok (.invokevirtual 132, 3) := by decide +kernel
theorem dX10_now_51 : decode cX10_now 51 = .ok (.ireturn, 1) := by decide +kernel
theorem dX10_gives_0 : decode cX10_gives 0 = .ok (.aload_n 0, 1) := by decide +kernel
theorem dX10_gives_1 : decode cX10_gives 1 = .ok (.iload_n 1, 1) := by decide +kernel
theorem dX10_gives_2 : decode cX10_gives 2 = .ok (.invokevirtual 102, 3) := by decide +kernel
theorem dX10_gives_5 : decode cX10_gives 5 = .ok (.ifCond .eq 12, 3) := by decide +kernel
theorem dX10_gives_8 : decode cX10_gives 8 = .ok (.iload_n 2, 1) := by decide +kernel
theorem dX10_gives_9 : decode cX10_gives 9 = .ok (.ifCond .lt 8, 3) := by decide +kernel
theorem dX10_gives_12 : decode cX10_gives 12 = .ok (.iload_n 2, 1) := by decide +kernel
theorem dX10_gives_13 : decode cX10_gives 13 = .ok (.iconst 2, 1) := by decide +kernel
theorem dX10_gives_14 : decode cX10_gives 14 = .ok (.if_icmp .le 5, 3) := by decide +kernel
theorem dX10_gives_17 : decode cX10_gives 17 = .ok (.iconst (-1), 1) := by decide +kernel
theorem dX10_gives_18 : decode cX10_gives 18 = .ok (.ireturn, 1) := by decide +kernel
theorem dX10_gives_19 : decode cX10_gives 19 = .ok (.aload_n 0, 1) := by decide +kernel
theorem dX10_gives_20 : decode cX10_gives 20 = .ok (.getfield 29, 3) := by decide +kernel
theorem dX10_gives_23 : decode cX10_gives 23 = .ok (.iload_n 1, 1) := by decide +kernel
theorem dX10_gives_24 : decode cX10_gives 24 = .ok (.invokevirtual 105, 3) := by decide +kernel
theorem dX10_gives_27 : decode cX10_gives 27 = .ok (.istore_n 3, 1) := by decide +kernel
theorem dX10_gives_28 : decode cX10_gives 28 = .ok (.aload_n 0, 1) := by decide +kernel
theorem dX10_gives_29 : decode cX10_gives 29 = .ok (.getfield 29, 3) := by decide +kernel
theorem dX10_gives_32 : decode cX10_gives 32 = .ok (.iload_n 1, 1) := by decide +kernel
theorem dX10_gives_33 : decode cX10_gives 33 = .ok (.iload_n 2, 1) := by decide +kernel
theorem dX10_gives_34 : decode cX10_gives 34 = .ok (.invokevirtual 135, 3) := by decide +kernel
theorem dX10_gives_37 : decode cX10_gives 37 = .ok (.aload_n 0, 1) := by decide +kernel
theorem dX10_gives_38 : decode cX10_gives 38 = .ok (.iconst 3, 1) := by decide +kernel
theorem dX10_gives_39 : decode cX10_gives 39 = .ok (.iload_n 1, 1) := by decide +kernel
theorem dX10_gives_40 : decode cX10_gives 40 = .ok (.imul, 1) := by decide +kernel
theorem dX10_gives_41 : decode cX10_gives 41 = .ok (.iload_n 3, 1) := by decide +kernel
theorem dX10_gives_42 : decode cX10_gives 42 = .ok (.iadd, 1) := by decide +kernel
theorem dX10_gives_43 : decode cX10_gives 43 = .ok (.invokevirtual 139, 3) := by decide +kernel
theorem dX10_gives_46 : decode cX10_gives 46 = .ok (.iload_n 3, 1) := by decide +kernel
theorem dX10_gives_47 : decode cX10_gives 47 = .ok (.ireturn, 1) := by decide +kernel
theorem dX10_steps_0 : decode cX10_steps 0 = .ok (.iload_n 1, 1) := by decide +kernel
theorem dX10_steps_1 : decode cX10_steps 1 = .ok (.invokestatic 113, 3) := by decide +kernel
theorem dX10_steps_4 : decode cX10_steps 4 = .ok (.ifCond .ne 5, 3) := by decide +kernel
theorem dX10_steps_7 : decode cX10_steps 7 = .ok (.iconst (-1), 1) := by decide +kernel
theorem dX10_steps_8 : decode cX10_steps 8 = .ok (.ireturn, 1) := by decide +kernel
theorem dX10_steps_9 : decode cX10_steps 9 = .ok (.aload_n 0, 1) := by decide +kernel
theorem dX10_steps_10 : decode cX10_steps 10 = .ok (.getfield 29, 3) := by decide +kernel
theorem dX10_steps_13 : decode cX10_steps 13 = .ok (.iload_n 1, 1) := by decide +kernel
theorem dX10_steps_14 : decode cX10_steps 14 = .ok (.invokevirtual 143, 3) := by decide +kernel
theorem dX10_steps_17 : decode cX10_steps 17 = .ok (.istore_n 2, 1) := by decide +kernel
theorem dX10_steps_18 : decode cX10_steps 18 = .ok (.aload_n 0, 1) := by decide +kernel
theorem dX10_steps_19 : decode cX10_steps 19 = .ok (.getfield 29, 3) := by decide +kernel
theorem dX10_steps_22 : decode cX10_steps 22 = .ok (.iload_n 1, 1) := by decide +kernel
theorem dX10_steps_23 : decode cX10_steps 23 = .ok (.invokevirtual 146, 3) := by decide +kernel
theorem dX10_steps_26 : decode cX10_steps 26 = .ok (.ifCond .ne 6, 3) := by decide +kernel
theorem dX10_steps_29 : decode cX10_steps 29 = .ok (.bipush (-3), 2) := by decide +kernel
theorem dX10_steps_31 : decode cX10_steps 31 = .ok (.ireturn, 1) := by decide +kernel
theorem dX10_steps_32 : decode cX10_steps 32 = .ok (.aload_n 0, 1) := by decide +kernel
theorem dX10_steps_33 : decode cX10_steps 33 = .ok (.iconst (-1), 1) := by decide +kernel
theorem dX10_steps_34 : decode cX10_steps 34 = .ok (.invokevirtual 139, 3) := by decide +kernel
theorem dX10_steps_37 : decode cX10_steps 37 = .ok (.aload_n 0, 1) := by decide +kernel
theorem dX10_steps_38 : decode cX10_steps 38 = .ok (.getfield 19, 3) := by decide +kernel
theorem dX10_steps_41 : decode cX10_steps 41 = .ok (.iload_n 2, 1) := by decide +kernel
theorem dX10_steps_42 : decode cX10_steps 42 = .ok (.iconst 1, 1) := by decide +kernel
theorem dX10_steps_43 : decode cX10_steps 43 = .ok (.iadd, 1) := by decide +kernel
theorem dX10_steps_44 : decode cX10_steps 44 = .ok (.aload_n 0, 1) := by decide +kernel
theorem dX10_steps_45 : decode cX10_steps 45 = .ok (.getfield 19, 3) := by decide +kernel
theorem dX10_steps_48 : decode cX10_steps 48 = .ok (.iload_n 2, 1) := by decide +kernel
theorem dX10_steps_49 : decode cX10_steps 49 = .ok (.invokevirtual 149, 3) := by decide +kernel
theorem dX10_steps_52 : decode cX10_steps 52 = .ok (.invokevirtual 152, 3) := by decide +kernel
theorem dX10_steps_55 : decode cX10_steps 55 = .ok (.ireturn, 1) := by decide +kernel
theorem dX10_undo_0 : decode cX10_undo 0 = .ok (.aload_n 0, 1) := by decide +kernel
theorem dX10_undo_1 : decode cX10_undo 1 = .ok (.getfield 126, 3) := by decide +kernel
theorem dX10_undo_4 : decode cX10_undo 4 = .ok (.ifCond .le 12, 3) := by decide +kernel
theorem dX10_undo_7 : decode cX10_undo 7 = .ok (.aload_n 0, 1) := by decide +kernel
theorem dX10_undo_8 : decode cX10_undo 8 = .ok (.getfield 126, 3) := by decide +kernel
theorem dX10_undo_11 : decode cX10_undo 11 = .ok (.bipush 10, 2) := by decide +kernel
theorem dX10_undo_13 : decode cX10_undo 13 = .ok (.if_icmp .le 6, 3) := by decide +kernel
theorem dX10_undo_16 : decode cX10_undo 16 = .ok (.bipush (-2), 2) := by decide +kernel
theorem dX10_undo_18 : decode cX10_undo 18 = .ok (.ireturn, 1) := by decide +kernel
theorem dX10_undo_19 : decode cX10_undo 19 = .ok (.aload_n 0, 1) := by decide +kernel
theorem dX10_undo_20 : decode cX10_undo 20 = .ok (.dup, 1) := by decide +kernel
theorem dX10_undo_21 : decode cX10_undo 21 = .ok (.getfield 126, 3) := by decide +kernel
theorem dX10_undo_24 : decode cX10_undo 24 = .ok (.iconst 1, 1) := by decide +kernel
theorem dX10_undo_25 : decode cX10_undo 25 = .ok (.isub, 1) := by decide +kernel
theorem dX10_undo_26 : decode cX10_undo 26 = .ok (.putfield 126, 3) := by decide +kernel
theorem dX10_undo_29 : decode cX10_undo 29 = .ok (.aload_n 0, 1) := by decide +kernel
theorem dX10_undo_30 : decode cX10_undo 30 = .ok (.getfield 52, 3) := by decide +kernel
theorem dX10_undo_33 : decode cX10_undo 33 = .ok (.aload_n 0, 1) := by decide +kernel
theorem dX10_undo_34 : decode cX10_undo 34 = .ok (.getfield 126, 3) := by decide +kernel
theorem dX10_undo_37 : decode cX10_undo 37 = .ok (.iaload, 1) := by decide +kernel
theorem dX10_undo_38 : decode cX10_undo 38 = .ok (.istore_n 1, 1) := by decide +kernel
theorem dX10_undo_39 : decode cX10_undo 39 = .ok (.iload_n 1, 1) := by decide +kernel
theorem dX10_undo_40 : decode cX10_undo 40 = .ok (.iconst (-1), 1) := by decide +kernel
theorem dX10_undo_41 : decode cX10_undo 41 = .ok (.if_icmp .ne 13, 3) := by decide +kernel
theorem dX10_undo_44 : decode cX10_undo 44 = .ok (.aload_n 0, 1) := by decide +kernel
theorem dX10_undo_45 : decode cX10_undo 45 = .ok (.getfield 29, 3) := by decide +kernel
theorem dX10_undo_48 : decode cX10_undo 48 = .ok (.invokevirtual 155, 3) := by decide +kernel
theorem dX10_undo_51 : decode cX10_undo 51 = .ok (.goto 16, 3) := by decide +kernel
theorem dX10_undo_54 : decode cX10_undo 54 = .ok (.aload_n 0, 1) := by decide +kernel
theorem dX10_undo_55 : decode cX10_undo 55 = .ok (.getfield 29, 3) := by decide +kernel
theorem dX10_undo_58 : decode cX10_undo 58 = .ok (.iload_n 1, 1) := by decide +kernel
theorem dX10_undo_59 : decode cX10_undo 59 = .ok (.iconst 3, 1) := by decide +kernel
theorem dX10_undo_60 : decode cX10_undo 60 = .ok (.idiv, 1) := by decide +kernel
theorem dX10_undo_61 : decode cX10_undo 61 = .ok (.iload_n 1, 1) := by decide +kernel
theorem dX10_undo_62 : decode cX10_undo 62 = .ok (.iconst 3, 1) := by decide +kernel
theorem dX10_undo_63 : decode cX10_undo 63 = .ok (.irem, 1) := by decide +kernel
theorem dX10_undo_64 : decode cX10_undo 64 = .ok (.invokevirtual 135, 3) := by decide +kernel
theorem dX10_undo_67 : decode cX10_undo 67 = .ok (.aload_n 0, 1) := by decide +kernel
theorem dX10_undo_68 : decode cX10_undo 68 = .ok (.getfield 126, 3) := by decide +kernel
theorem dX10_undo_71 : decode cX10_undo 71 = .ok (.ireturn, 1) := by decide +kernel
theorem dX10_envy_0 : decode cX10_envy 0 = .ok (.iload_n 1, 1) := by decide +kernel
theorem dX10_envy_1 : decode cX10_envy 1 = .ok (.invokestatic 113, 3) := by decide +kernel
theorem dX10_envy_4 : decode cX10_envy 4 = .ok (.ifCond .eq 11, 3) := by decide +kernel
theorem dX10_envy_7 : decode cX10_envy 7 = .ok (.aload_n 0, 1) := by decide +kernel
theorem dX10_envy_8 : decode cX10_envy 8 = .ok (.iload_n 1, 1) := by decide +kernel
theorem dX10_envy_9 : decode cX10_envy 9 = .ok (.invokevirtual 158, 3) := by decide +kernel
theorem dX10_envy_12 : decode cX10_envy 12 = .ok (.goto 4, 3) := by decide +kernel
theorem dX10_envy_15 : decode cX10_envy 15 = .ok (.iconst (-1), 1) := by decide +kernel
theorem dX10_envy_16 : decode cX10_envy 16 = .ok (.ireturn, 1) := by decide +kernel
theorem dX10_fair_0 : decode cX10_fair 0 = .ok (.iload_n 1, 1) := by decide +kernel
theorem dX10_fair_1 : decode cX10_fair 1 = .ok (.ifCond .lt 8, 3) := by decide +kernel
theorem dX10_fair_4 : decode cX10_fair 4 = .ok (.iload_n 1, 1) := by decide +kernel
theorem dX10_fair_5 : decode cX10_fair 5 = .ok (.iconst 3, 1) := by decide +kernel
theorem dX10_fair_6 : decode cX10_fair 6 = .ok (.if_icmp .le 5, 3) := by decide +kernel
theorem dX10_fair_9 : decode cX10_fair 9 = .ok (.iconst (-1), 1) := by decide +kernel
theorem dX10_fair_10 : decode cX10_fair 10 = .ok (.ireturn, 1) := by decide +kernel
theorem dX10_fair_11 : decode cX10_fair 11 = .ok (.iload_n 1, 1) := by decide +kernel
theorem dX10_fair_12 : decode cX10_fair 12 = .ok (.ifCond .ne 15, 3) := by decide +kernel
theorem dX10_fair_15 : decode cX10_fair 15 = .ok (.aload_n 0, 1) := by decide +kernel
theorem dX10_fair_16 : decode cX10_fair 16 = .ok (.getfield 42, 3) := by decide +kernel
theorem dX10_fair_19 : decode cX10_fair 19 = .ok (.aload_n 0, 1) := by decide +kernel
theorem dX10_fair_20 : decode cX10_fair 20 = .ok (.getfield 19, 3) := by decide +kernel
theorem dX10_fair_23 : decode cX10_fair 23 = .ok (.invokevirtual 161, 3) := by decide +kernel
theorem dX10_fair_26 : decode cX10_fair 26 = .ok (.ireturn, 1) := by decide +kernel
theorem dX10_fair_27 : decode cX10_fair 27 = .ok (.aload_n 0, 1) := by decide +kernel
theorem dX10_fair_28 : decode cX10_fair 28 = .ok (.getfield 42, 3) := by decide +kernel
theorem dX10_fair_31 : decode cX10_fair 31 = .ok (.aload_n 0, 1) := by decide +kernel
theorem dX10_fair_32 : decode cX10_fair 32 = .ok (.getfield 19, 3) := by decide +kernel
theorem dX10_fair_35 : decode cX10_fair 35 = .ok (.invokevirtual 164, 3) := by decide +kernel
theorem dX10_fair_38 : decode cX10_fair 38 = .ok (.istore_n 2, 1) := by decide +kernel
theorem dX10_fair_39 : decode cX10_fair 39 = .ok (.iload_n 2, 1) := by decide +kernel
theorem dX10_fair_40 : decode cX10_fair 40 = .ok (.bipush (-9), 2) := by decide +kernel
theorem dX10_fair_42 : decode cX10_fair 42 = .ok (.if_icmp .eq 8, 3) := by decide +kernel
theorem dX10_fair_45 : decode cX10_fair 45 = .ok (.iload_n 1, 1) := by decide +kernel
theorem dX10_fair_46 : decode cX10_fair 46 = .ok (.iconst 1, 1) := by decide +kernel
theorem dX10_fair_47 : decode cX10_fair 47 = .ok (.if_icmp .ne 5, 3) := by decide +kernel
theorem dX10_fair_50 : decode cX10_fair 50 = .ok (.iload_n 2, 1) := by decide +kernel
theorem dX10_fair_51 : decode cX10_fair 51 = .ok (.ireturn, 1) := by decide +kernel
theorem dX10_fair_52 : decode cX10_fair 52 = .ok (.aload_n 0, 1) := by decide +kernel
theorem dX10_fair_53 : decode cX10_fair 53 = .ok (.getfield 42, 3) := by decide +kernel
theorem dX10_fair_56 : decode cX10_fair 56 = .ok (.aload_n 0, 1) := by decide +kernel
theorem dX10_fair_57 : decode cX10_fair 57 = .ok (.getfield 19, 3) := by decide +kernel
theorem dX10_fair_60 : decode cX10_fair 60 = .ok (.iload_n 2, 1) := by decide +kernel
theorem dX10_fair_61 : decode cX10_fair 61 = .ok (.invokevirtual 167, 3) := by decide +kernel
theorem dX10_fair_64 : decode cX10_fair 64 = .ok (.istore_n 3, 1) := by decide +kernel
theorem dX10_fair_65 : decode cX10_fair 65 = .ok (.iload_n 1, 1) := by decide +kernel
theorem dX10_fair_66 : decode cX10_fair 66 = .ok (.iconst 2, 1) := by decide +kernel
theorem dX10_fair_67 : decode cX10_fair 67 = .ok (.if_icmp .ne 7, 3) := by decide +kernel
theorem dX10_fair_70 : decode cX10_fair 70 = .ok (.iload_n 3, 1) := by decide +kernel
theorem dX10_fair_71 : decode cX10_fair 71 = .ok (.goto 16, 3) := by decide +kernel
theorem dX10_fair_74 : decode cX10_fair 74 = .ok (.aload_n 0, 1) := by decide +kernel
theorem dX10_fair_75 : decode cX10_fair 75 = .ok (.getfield 42, 3) := by decide +kernel
theorem dX10_fair_78 : decode cX10_fair 78 = .ok (.aload_n 0, 1) := by decide +kernel
theorem dX10_fair_79 : decode cX10_fair 79 = .ok (.getfield 19, 3) := by decide +kernel
theorem dX10_fair_82 : decode cX10_fair 82 = .ok (.invokevirtual 171, 3) := by decide +kernel
theorem dX10_fair_85 : decode cX10_fair 85 = .ok (.iload_n 3, 1) := by decide +kernel
theorem dX10_fair_86 : decode cX10_fair 86 = .ok (.isub, 1) := by decide +kernel
theorem dX10_fair_87 : decode cX10_fair 87 = .ok (.ireturn, 1) := by decide +kernel
theorem dX10_cut_0 : decode cX10_cut 0 = .ok (.iload_n 1, 1) := by decide +kernel
theorem dX10_cut_1 : decode cX10_cut 1 = .ok (.invokestatic 113, 3) := by decide +kernel
theorem dX10_cut_4 : decode cX10_cut 4 = .ok (.ifCond .eq 12, 3) := by decide +kernel
theorem dX10_cut_7 : decode cX10_cut 7 = .ok (.iload_n 2, 1) := by decide +kernel
theorem dX10_cut_8 : decode cX10_cut 8 = .ok (.ifCond .lt 8, 3) := by decide +kernel
theorem dX10_cut_11 : decode cX10_cut 11 = .ok (.iload_n 2, 1) := by decide +kernel
theorem dX10_cut_12 : decode cX10_cut 12 = .ok (.iconst 1, 1) := by decide +kernel
theorem dX10_cut_13 : decode cX10_cut 13 = .ok (.if_icmp .le 5, 3) := by decide +kernel
theorem dX10_cut_16 : decode cX10_cut 16 = .ok (.iconst (-1), 1) := by decide +kernel
theorem dX10_cut_17 : decode cX10_cut 17 = .ok (.ireturn, 1) := by decide +kernel
theorem dX10_cut_18 : decode cX10_cut 18 = .ok (.aload_n 0, 1) := by decide +kernel
theorem dX10_cut_19 : decode cX10_cut 19 = .ok (.getfield 42, 3) := by decide +kernel
theorem dX10_cut_22 : decode cX10_cut 22 = .ok (.aload_n 0, 1) := by decide +kernel
theorem dX10_cut_23 : decode cX10_cut 23 = .ok (.getfield 19, 3) := by decide +kernel
theorem dX10_cut_26 : decode cX10_cut 26 = .ok (.iload_n 1, 1) := by decide +kernel
theorem dX10_cut_27 : decode cX10_cut 27 = .ok (.invokevirtual 174, 3) := by decide +kernel
theorem dX10_cut_30 : decode cX10_cut 30 = .ok (.istore_n 3, 1) := by decide +kernel
theorem dX10_cut_31 : decode cX10_cut 31 = .ok (.iload_n 2, 1) := by decide +kernel
theorem dX10_cut_32 : decode cX10_cut 32 = .ok (.iconst 1, 1) := by decide +kernel
theorem dX10_cut_33 : decode cX10_cut 33 = .ok (.if_icmp .ne 7, 3) := by decide +kernel
theorem dX10_cut_36 : decode cX10_cut 36 = .ok (.iload_n 3, 1) := by decide +kernel
theorem dX10_cut_37 : decode cX10_cut 37 = .ok (.goto 16, 3) := by decide +kernel
theorem dX10_cut_40 : decode cX10_cut 40 = .ok (.aload_n 0, 1) := by decide +kernel
theorem dX10_cut_41 : decode cX10_cut 41 = .ok (.getfield 42, 3) := by decide +kernel
theorem dX10_cut_44 : decode cX10_cut 44 = .ok (.aload_n 0, 1) := by decide +kernel
theorem dX10_cut_45 : decode cX10_cut 45 = .ok (.getfield 19, 3) := by decide +kernel
theorem dX10_cut_48 : decode cX10_cut 48 = .ok (.iload_n 1, 1) := by decide +kernel
theorem dX10_cut_49 : decode cX10_cut 49 = .ok (.iload_n 3, 1) := by decide +kernel
theorem dX10_cut_50 : decode cX10_cut 50 = .ok (.invokevirtual 177, 3) := by decide +kernel
theorem dX10_cut_53 : decode cX10_cut 53 = .ok (.ireturn, 1) := by decide +kernel
theorem dX10_byTurns_0 : decode cX10_byTurns 0 = .ok (.iload_n 1, 1) := by decide +kernel
theorem dX10_byTurns_1 : decode cX10_byTurns 1 = .ok (.invokestatic 113, 3) := by decide +kernel
theorem dX10_byTurns_4 : decode cX10_byTurns 4 = .ok (.ifCond .eq 12, 3) := by decide +kernel
theorem dX10_byTurns_7 : decode cX10_byTurns 7 = .ok (.iload_n 2, 1) := by decide +kernel
theorem dX10_byTurns_8 : decode cX10_byTurns 8 = .ok (.ifCond .lt 8, 3) := by decide +kernel
theorem dX10_byTurns_11 : decode cX10_byTurns 11 = .ok (.iload_n 2, 1) := by decide +kernel
theorem dX10_byTurns_12 : decode cX10_byTurns 12 = .ok (.iconst 2, 1) := by decide +kernel
theorem dX10_byTurns_13 : decode cX10_byTurns 13 = .ok (.if_icmp .le 5, 3) := by decide +kernel
theorem dX10_byTurns_16 : decode cX10_byTurns 16 = .ok (.iconst (-1), 1) := by decide +kernel
theorem dX10_byTurns_17 : decode cX10_byTurns 17 = .ok (.ireturn, 1) := by decide +kernel
theorem dX10_byTurns_18 : decode cX10_byTurns 18 = .ok (.aload_n 0, 1) := by decide +kernel
theorem dX10_byTurns_19 : decode cX10_byTurns 19 = .ok (.getfield 29, 3) := by decide +kernel
theorem dX10_byTurns_22 : decode cX10_byTurns 22 = .ok (.iconst 2, 1) := by decide +kernel
theorem dX10_byTurns_23 : decode cX10_byTurns 23 = .ok (.aload_n 0, 1) := by decide +kernel
theorem dX10_byTurns_24 : decode cX10_byTurns 24 = .ok (.getfield 19, 3) := by decide +kernel
theorem dX10_byTurns_27 : decode cX10_byTurns 27 = .ok (.getfield 129, 3) := by decide +kernel
theorem dX10_byTurns_30 : decode cX10_byTurns 30 = .ok (.invokevirtual 132, 3) := by decide +kernel
theorem dX10_byTurns_33 : decode cX10_byTurns 33 = .ok (.istore_n 3, 1) := by decide +kernel
theorem dX10_byTurns_34 : decode cX10_byTurns 34 = .ok (.aload_n 0, 1) := by decide +kernel
theorem dX10_byTurns_35 : decode cX10_byTurns 35 = .ok (.getfield 19, 3) := by decide +kernel
theorem dX10_byTurns_38 : decode cX10_byTurns 38 = .ok (.aload_n 0, 1) := by decide +kernel
theorem dX10_byTurns_39 : decode cX10_byTurns 39 = .ok (.getfield 29, 3) := by decide +kernel
theorem dX10_byTurns_42 : decode cX10_byTurns 42 = .ok (.iconst 1, 1) := by decide +kernel
theorem dX10_byTurns_43 : decode cX10_byTurns 43 = .ok (.aload_n 0, 1) := by decide +kernel
theorem dX10_byTurns_44 : decode cX10_byTurns 44 = .ok (.getfield 19, 3) := by decide +kernel
theorem dX10_byTurns_47 : decode cX10_byTurns 47 = .ok (.getfield 129, 3) := by decide +kernel
theorem dX10_byTurns_50 : decode cX10_byTurns 50 = .ok (.invokevirtual 132, 3) := by decide +kernel
theorem dX10_byTurns_53 : decode cX10_byTurns 53 = .ok (.iload_n 3, 1) := by decide +kernel
theorem dX10_byTurns_54 : decode cX10_byTurns 54 = .ok (.iload_n 1, 1) := by decide +kernel
theorem dX10_byTurns_55 : decode cX10_byTurns 55 = .ok (.iconst 0, 1) := by decide +kernel
theorem dX10_byTurns_56 : decode cX10_byTurns 56 = .ok (.invokestatic 181, 3) := by decide +kernel
theorem dX10_byTurns_59 : decode cX10_byTurns 59 = .ok (.istore 4, 2) := by decide +kernel
theorem dX10_byTurns_61 : decode cX10_byTurns 61 = .ok (.iload_n 2, 1) := by decide +kernel
theorem dX10_byTurns_62 : decode cX10_byTurns 62 = .ok (.iconst 2, 1) := by decide +kernel
theorem dX10_byTurns_63 : decode cX10_byTurns 63 = .ok (.if_icmp .ne 23, 3) := by decide +kernel
theorem dX10_byTurns_66 : decode cX10_byTurns 66 = .ok (.iload 4, 2) := by decide +kernel
theorem dX10_byTurns_68 : decode cX10_byTurns 68 = .ok (.bipush 64, 2) := by decide +kernel
theorem dX10_byTurns_70 : decode cX10_byTurns 70 = .ok (.if_icmp .ge 8, 3) := by decide +kernel
theorem dX10_byTurns_73 : decode cX10_byTurns 73 = .ok (.bipush (-9), 2) := by decide +kernel
theorem dX10_byTurns_75 : decode cX10_byTurns 75 = .ok (.goto 10, 3) := by decide +kernel
theorem dX10_byTurns_78 : decode cX10_byTurns 78 = .ok (.iload 4, 2) := by decide +kernel
theorem dX10_byTurns_80 : decode cX10_byTurns 80 = .ok (.bipush 64, 2) := by decide +kernel
theorem dX10_byTurns_82 : decode cX10_byTurns 82 = .ok (.idiv, 1) := by decide +kernel
theorem dX10_byTurns_83 : decode cX10_byTurns 83 = .ok (.iconst 1, 1) := by decide +kernel
theorem dX10_byTurns_84 : decode cX10_byTurns 84 = .ok (.isub, 1) := by decide +kernel
theorem dX10_byTurns_85 : decode cX10_byTurns 85 = .ok (.ireturn, 1) := by decide +kernel
theorem dX10_byTurns_86 : decode cX10_byTurns 86 = .ok (.aload_n 0, 1) := by decide +kernel
theorem dX10_byTurns_87 : decode cX10_byTurns 87 = .ok (.getfield 19, 3) := by decide +kernel
theorem dX10_byTurns_90 : decode cX10_byTurns 90 = .ok (.iload_n 2, 1) := by decide +kernel
theorem dX10_byTurns_91 : decode cX10_byTurns 91 = .ok (.aload_n 0, 1) := by decide +kernel
theorem dX10_byTurns_92 : decode cX10_byTurns 92 = .ok (.getfield 19, 3) := by decide +kernel
theorem dX10_byTurns_95 : decode cX10_byTurns 95 = .ok (.iload_n 2, 1) := by decide +kernel
theorem dX10_byTurns_96 : decode cX10_byTurns 96 = .ok (.iload 4, 2) := by decide +kernel
theorem dX10_byTurns_98 : decode cX10_byTurns 98 = .ok (.bipush 64, 2) := by decide +kernel
theorem dX10_byTurns_100 : decode cX10_byTurns 100 = .ok (.irem, 1) := by decide +kernel
theorem dX10_byTurns_101 : decode cX10_byTurns 101 = .ok (.invokevirtual 185, 3) := by decide +kernel
theorem dX10_byTurns_104 : decode cX10_byTurns 104 = .ok (.invokevirtual 120, 3) := by decide +kernel
theorem dX10_byTurns_107 : decode cX10_byTurns 107 = .ok (.ireturn, 1) := by decide +kernel
theorem dX10_lies_0 : decode cX10_lies 0 = .ok (.iload_n 1, 1) := by decide +kernel
theorem dX10_lies_1 : decode cX10_lies 1 = .ok (.invokestatic 113, 3) := by decide +kernel
theorem dX10_lies_4 : decode cX10_lies 4 = .ok (.ifCond .eq 12, 3) := by decide +kernel
theorem dX10_lies_7 : decode cX10_lies 7 = .ok (.iload_n 2, 1) := by decide +kernel
theorem dX10_lies_8 : decode cX10_lies 8 = .ok (.ifCond .lt 8, 3) := by decide +kernel
theorem dX10_lies_11 : decode cX10_lies 11 = .ok (.iload_n 2, 1) := by decide +kernel
theorem dX10_lies_12 : decode cX10_lies 12 = .ok (.iconst 1, 1) := by decide +kernel
theorem dX10_lies_13 : decode cX10_lies 13 = .ok (.if_icmp .le 5, 3) := by decide +kernel
theorem dX10_lies_16 : decode cX10_lies 16 = .ok (.iconst (-1), 1) := by decide +kernel
theorem dX10_lies_17 : decode cX10_lies 17 = .ok (.ireturn, 1) := by decide +kernel
theorem dX10_lies_18 : decode cX10_lies 18 = .ok (.aload_n 0, 1) := by decide +kernel
theorem dX10_lies_19 : decode cX10_lies 19 = .ok (.getfield 42, 3) := by decide +kernel
theorem dX10_lies_22 : decode cX10_lies 22 = .ok (.aload_n 0, 1) := by decide +kernel
theorem dX10_lies_23 : decode cX10_lies 23 = .ok (.getfield 19, 3) := by decide +kernel
theorem dX10_lies_26 : decode cX10_lies 26 = .ok (.iload_n 1, 1) := by decide +kernel
theorem dX10_lies_27 : decode cX10_lies 27 = .ok (.invokevirtual 188, 3) := by decide +kernel
theorem dX10_lies_30 : decode cX10_lies 30 = .ok (.iload_n 2, 1) := by decide +kernel
theorem dX10_lies_31 : decode cX10_lies 31 = .ok (.ifCond .ne 13, 3) := by decide +kernel
theorem dX10_lies_34 : decode cX10_lies 34 = .ok (.aload_n 0, 1) := by decide +kernel
theorem dX10_lies_35 : decode cX10_lies 35 = .ok (.getfield 42, 3) := by decide +kernel
theorem dX10_lies_38 : decode cX10_lies 38 = .ok (.getfield 192, 3) := by decide +kernel
theorem dX10_lies_41 : decode cX10_lies 41 = .ok (.goto 10, 3) := by decide +kernel
theorem dX10_lies_44 : decode cX10_lies 44 = .ok (.aload_n 0, 1) := by decide +kernel
theorem dX10_lies_45 : decode cX10_lies 45 = .ok (.getfield 42, 3) := by decide +kernel
theorem dX10_lies_48 : decode cX10_lies 48 = .ok (.getfield 195, 3) := by decide +kernel
theorem dX10_lies_51 : decode cX10_lies 51 = .ok (.ireturn, 1) := by decide +kernel
theorem dX10_sell_0 : decode cX10_sell 0 = .ok (.iload_n 1, 1) := by decide +kernel
theorem dX10_sell_1 : decode cX10_sell 1 = .ok (.ifCond .lt 9, 3) := by decide +kernel
theorem dX10_sell_4 : decode cX10_sell 4 = .ok (.iload_n 1, 1) := by decide +kernel
theorem dX10_sell_5 : decode cX10_sell 5 = .ok (.bipush 9, 2) := by decide +kernel
theorem dX10_sell_7 : decode cX10_sell 7 = .ok (.if_icmp .le 7, 3) := by decide +kernel
theorem dX10_sell_10 : decode cX10_sell 10 = .ok (.iconst (-1), 1) := by decide +kernel
theorem dX10_sell_11 : decode cX10_sell 11 = .ok (.goto 15, 3) := by decide +kernel
theorem dX10_sell_14 : decode cX10_sell 14 = .ok (.aload_n 0, 1) := by decide +kernel
theorem dX10_sell_15 : decode cX10_sell 15 = .ok (.getfield 42, 3) := by decide +kernel
theorem dX10_sell_18 : decode cX10_sell 18 = .ok (.aload_n 0, 1) := by decide +kernel
theorem dX10_sell_19 : decode cX10_sell 19 = .ok (.getfield 19, 3) := by decide +kernel
theorem dX10_sell_22 : decode cX10_sell 22 = .ok (.iload_n 1, 1) := by decide +kernel
theorem dX10_sell_23 : decode cX10_sell 23 = .ok (.invokevirtual 198, 3) := by decide +kernel
theorem dX10_sell_26 : decode cX10_sell 26 = .ok (.ireturn, 1) := by decide +kernel
theorem dX10_adds_0 : decode cX10_adds 0 = .ok (.iload_n 1, 1) := by decide +kernel
theorem dX10_adds_1 : decode cX10_adds 1 = .ok (.invokestatic 113, 3) := by decide +kernel
theorem dX10_adds_4 : decode cX10_adds 4 = .ok (.ifCond .ne 5, 3) := by decide +kernel
theorem dX10_adds_7 : decode cX10_adds 7 = .ok (.iconst (-1), 1) := by decide +kernel
theorem dX10_adds_8 : decode cX10_adds 8 = .ok (.ireturn, 1) := by decide +kernel
theorem dX10_adds_9 : decode cX10_adds 9 = .ok (.aload_n 0, 1) := by decide +kernel
theorem dX10_adds_10 : decode cX10_adds 10 = .ok (.getfield 19, 3) := by decide +kernel
theorem dX10_adds_13 : decode cX10_adds 13 = .ok (.iload_n 1, 1) := by decide +kernel
theorem dX10_adds_14 : decode cX10_adds 14 = .ok (.aload_n 0, 1) := by decide +kernel
theorem dX10_adds_15 : decode cX10_adds 15 = .ok (.getfield 19, 3) := by decide +kernel
theorem dX10_adds_18 : decode cX10_adds 18 = .ok (.invokevirtual 116, 3) := by decide +kernel
theorem dX10_adds_21 : decode cX10_adds 21 = .ok (.invokevirtual 120, 3) := by decide +kernel
theorem dX10_adds_24 : decode cX10_adds 24 = .ok (.aload_n 0, 1) := by decide +kernel
theorem dX10_adds_25 : decode cX10_adds 25 = .ok (.getfield 19, 3) := by decide +kernel
theorem dX10_adds_28 : decode cX10_adds 28 = .ok (.iload_n 1, 1) := by decide +kernel
theorem dX10_adds_29 : decode cX10_adds 29 = .ok (.aload_n 0, 1) := by decide +kernel
theorem dX10_adds_30 : decode cX10_adds 30 = .ok (.getfield 19, 3) := by decide +kernel
theorem dX10_adds_33 : decode cX10_adds 33 = .ok (.invokevirtual 116, 3) := by decide +kernel
theorem dX10_adds_36 : decode cX10_adds 36 = .ok (.invokevirtual 201, 3) := by decide +kernel
theorem dX10_adds_39 : decode cX10_adds 39 = .ok (.if_icmp .gt 7, 3) := by decide +kernel
theorem dX10_adds_42 : decode cX10_adds 42 = .ok (.iconst 1, 1) := by decide +kernel
theorem dX10_adds_43 : decode cX10_adds 43 = .ok (.goto 4, 3) := by decide +kernel
theorem dX10_adds_46 : decode cX10_adds 46 = .ok (.iconst 0, 1) := by decide +kernel
theorem dX10_adds_47 : decode cX10_adds 47 = .ok (.ireturn, 1) := by decide +kernel
theorem dX10_odds_0 : decode cX10_odds 0 = .ok (.iload_n 1, 1) := by decide +kernel
theorem dX10_odds_1 : decode cX10_odds 1 = .ok (.ifCond .lt 18, 3) := by decide +kernel
theorem dX10_odds_4 : decode cX10_odds 4 = .ok (.iload_n 1, 1) := by decide +kernel
theorem dX10_odds_5 : decode cX10_odds 5 = .ok (.bipush 10, 2) := by decide +kernel
theorem dX10_odds_7 : decode cX10_odds 7 = .ok (.if_icmp .gt 12, 3) := by decide +kernel
theorem dX10_odds_10 : decode cX10_odds 10 = .ok (.iload_n 2, 1) := by decide +kernel
theorem dX10_odds_11 : decode cX10_odds 11 = .ok (.ifCond .lt 8, 3) := by decide +kernel
theorem dX10_odds_14 : decode cX10_odds 14 = .ok (.iload_n 2, 1) := by decide +kernel
theorem dX10_odds_15 : decode cX10_odds 15 = .ok (.iconst 1, 1) := by decide +kernel
theorem dX10_odds_16 : decode cX10_odds 16 = .ok (.if_icmp .le 5, 3) := by decide +kernel
theorem dX10_odds_19 : decode cX10_odds 19 = .ok (.iconst (-1), 1) := by decide +kernel
theorem dX10_odds_20 : decode cX10_odds 20 = .ok (.ireturn, 1) := by decide +kernel
theorem dX10_odds_21 : decode cX10_odds 21 = .ok (.aload_n 0, 1) := by decide +kernel
theorem dX10_odds_22 : decode cX10_odds 22 = .ok (.getfield 42, 3) := by decide +kernel
theorem dX10_odds_25 : decode cX10_odds 25 = .ok (.aload_n 0, 1) := by decide +kernel
theorem dX10_odds_26 : decode cX10_odds 26 = .ok (.getfield 19, 3) := by decide +kernel
theorem dX10_odds_29 : decode cX10_odds 29 = .ok (.iload_n 1, 1) := by decide +kernel
theorem dX10_odds_30 : decode cX10_odds 30 = .ok (.invokevirtual 204, 3) := by decide +kernel
theorem dX10_odds_33 : decode cX10_odds 33 = .ok (.istore_n 3, 1) := by decide +kernel
theorem dX10_odds_34 : decode cX10_odds 34 = .ok (.bipush 10, 2) := by decide +kernel
theorem dX10_odds_36 : decode cX10_odds 36 = .ok (.aload_n 0, 1) := by decide +kernel
theorem dX10_odds_37 : decode cX10_odds 37 = .ok (.getfield 19, 3) := by decide +kernel
theorem dX10_odds_40 : decode cX10_odds 40 = .ok (.getfield 129, 3) := by decide +kernel
theorem dX10_odds_43 : decode cX10_odds 43 = .ok (.invokestatic 207, 3) := by decide +kernel
theorem dX10_odds_46 : decode cX10_odds 46 = .ok (.istore 4, 2) := by decide +kernel
theorem dX10_odds_48 : decode cX10_odds 48 = .ok (.iload_n 3, 1) := by decide +kernel
theorem dX10_odds_49 : decode cX10_odds 49 = .ok (.iload 4, 2) := by decide +kernel
theorem dX10_odds_51 : decode cX10_odds 51 = .ok (.invokestatic 210, 3) := by decide +kernel
theorem dX10_odds_54 : decode cX10_odds 54 = .ok (.istore 5, 2) := by decide +kernel
theorem dX10_odds_56 : decode cX10_odds 56 = .ok (.iload 5, 2) := by decide +kernel
theorem dX10_odds_58 : decode cX10_odds 58 = .ok (.iconst 1, 1) := by decide +kernel
theorem dX10_odds_59 : decode cX10_odds 59 = .ok (.if_icmp .ge 6, 3) := by decide +kernel
theorem dX10_odds_62 : decode cX10_odds 62 = .ok (.iconst 1, 1) := by decide +kernel
theorem dX10_odds_63 : decode cX10_odds 63 = .ok (.istore 5, 2) := by decide +kernel
theorem dX10_odds_65 : decode cX10_odds 65 = .ok (.iload_n 2, 1) := by decide +kernel
theorem dX10_odds_66 : decode cX10_odds 66 = .ok (.ifCond .ne 7, 3) := by decide +kernel
theorem dX10_odds_69 : decode cX10_odds 69 = .ok (.iload_n 3, 1) := by decide +kernel
theorem dX10_odds_70 : decode cX10_odds 70 = .ok (.goto 5, 3) := by decide +kernel
theorem dX10_odds_73 : decode cX10_odds 73 = .ok (.iload 4, 2) := by decide +kernel
theorem dX10_odds_75 : decode cX10_odds 75 = .ok (.iload 5, 2) := by decide +kernel
theorem dX10_odds_77 : decode cX10_odds 77 = .ok (.idiv, 1) := by decide +kernel
theorem dX10_odds_78 : decode cX10_odds 78 = .ok (.ireturn, 1) := by decide +kernel
theorem dX10_foot_0 : decode cX10_foot 0 = .ok (.iload_n 1, 1) := by decide +kernel
theorem dX10_foot_1 : decode cX10_foot 1 = .ok (.ifCond .lt 14, 3) := by decide +kernel
theorem dX10_foot_4 : decode cX10_foot 4 = .ok (.iload_n 1, 1) := by decide +kernel
theorem dX10_foot_5 : decode cX10_foot 5 = .ok (.aload_n 0, 1) := by decide +kernel
theorem dX10_foot_6 : decode cX10_foot 6 = .ok (.getfield 29, 3) := by decide +kernel
theorem dX10_foot_9 : decode cX10_foot 9 = .ok (.getfield 123, 3) := by decide +kernel
theorem dX10_foot_12 : decode cX10_foot 12 = .ok (.if_icmp .lt 7, 3) := by decide +kernel
theorem dX10_foot_15 : decode cX10_foot 15 = .ok (.iconst (-1), 1) := by decide +kernel
theorem dX10_foot_16 : decode cX10_foot 16 = .ok (.goto 11, 3) := by decide +kernel
theorem dX10_foot_19 : decode cX10_foot 19 = .ok (.aload_n 0, 1) := by decide +kernel
theorem dX10_foot_20 : decode cX10_foot 20 = .ok (.getfield 29, 3) := by decide +kernel
theorem dX10_foot_23 : decode cX10_foot 23 = .ok (.iload_n 1, 1) := by decide +kernel
theorem dX10_foot_24 : decode cX10_foot 24 = .ok (.invokevirtual 213, 3) := by decide +kernel
theorem dX10_foot_27 : decode cX10_foot 27 = .ok (.ireturn, 1) := by decide +kernel
theorem dX10_worn_0 : decode cX10_worn 0 = .ok (.iload_n 1, 1) := by decide +kernel
theorem dX10_worn_1 : decode cX10_worn 1 = .ok (.invokestatic 113, 3) := by decide +kernel
theorem dX10_worn_4 : decode cX10_worn 4 = .ok (.ifCond .eq 11, 3) := by decide +kernel
theorem dX10_worn_7 : decode cX10_worn 7 = .ok (.aload_n 0, 1) := by decide +kernel
theorem dX10_worn_8 : decode cX10_worn 8 = .ok (.iload_n 2, 1) := by decide +kernel
theorem dX10_worn_9 : decode cX10_worn 9 = .ok (.invokevirtual 216, 3) := by decide +kernel
theorem dX10_worn_12 : decode cX10_worn 12 = .ok (.ifCond .ne 5, 3) := by decide +kernel
theorem dX10_worn_15 : decode cX10_worn 15 = .ok (.iconst (-1), 1) := by decide +kernel
theorem dX10_worn_16 : decode cX10_worn 16 = .ok (.ireturn, 1) := by decide +kernel
theorem dX10_worn_17 : decode cX10_worn 17 = .ok (.aload_n 0, 1) := by decide +kernel
theorem dX10_worn_18 : decode cX10_worn 18 = .ok (.getfield 19, 3) := by decide +kernel
theorem dX10_worn_21 : decode cX10_worn 21 = .ok (.aload_n 0, 1) := by decide +kernel
theorem dX10_worn_22 : decode cX10_worn 22 = .ok (.getfield 29, 3) := by decide +kernel
theorem dX10_worn_25 : decode cX10_worn 25 = .ok (.iload_n 1, 1) := by decide +kernel
theorem dX10_worn_26 : decode cX10_worn 26 = .ok (.invokevirtual 143, 3) := by decide +kernel
theorem dX10_worn_29 : decode cX10_worn 29 = .ok (.iload_n 2, 1) := by decide +kernel
theorem dX10_worn_30 : decode cX10_worn 30 = .ok (.invokevirtual 152, 3) := by decide +kernel
theorem dX10_worn_33 : decode cX10_worn 33 = .ok (.ireturn, 1) := by decide +kernel
theorem dX10_judge_0 : decode cX10_judge 0 = .ok (.iload_n 1, 1) := by decide +kernel
theorem dX10_judge_1 : decode cX10_judge 1 = .ok (.ifCond .lt 8, 3) := by decide +kernel
theorem dX10_judge_4 : decode cX10_judge 4 = .ok (.iload_n 1, 1) := by decide +kernel
theorem dX10_judge_5 : decode cX10_judge 5 = .ok (.iconst 2, 1) := by decide +kernel
theorem dX10_judge_6 : decode cX10_judge 6 = .ok (.if_icmp .le 5, 3) := by decide +kernel
theorem dX10_judge_9 : decode cX10_judge 9 = .ok (.iconst (-1), 1) := by decide +kernel
theorem dX10_judge_10 : decode cX10_judge 10 = .ok (.ireturn, 1) := by decide +kernel
theorem dX10_judge_11 : decode cX10_judge 11 = .ok (.iload_n 1, 1) := by decide +kernel
theorem dX10_judge_12 : decode cX10_judge 12 = .ok (.ifCond .ne 20, 3) := by decide +kernel
theorem dX10_judge_15 : decode cX10_judge 15 = .ok (.aload_n 0, 1) := by decide +kernel
theorem dX10_judge_16 : decode cX10_judge 16 = .ok (.getfield 29, 3) := by decide +kernel
theorem dX10_judge_19 : decode cX10_judge 19 = .ok (.aload_n 0, 1) := by decide +kernel
theorem dX10_judge_20 : decode cX10_judge 20 = .ok (.getfield 19, 3) := by decide +kernel
theorem dX10_judge_23 : decode cX10_judge 23 = .ok (.getfield 219, 3) := by decide +kernel
theorem dX10_judge_26 : decode cX10_judge 26 = .ok (.iconst 1, 1) := by decide +kernel
theorem dX10_judge_27 : decode cX10_judge 27 = .ok (.iadd, 1) := by decide +kernel
theorem dX10_judge_28 : decode cX10_judge 28 = .ok (.invokevirtual 222, 3) := by decide +kernel
theorem dX10_judge_31 : decode cX10_judge 31 = .ok (.ireturn, 1) := by decide +kernel
theorem dX10_judge_32 : decode cX10_judge 32 = .ok (.iload_n 1, 1) := by decide +kernel
theorem dX10_judge_33 : decode cX10_judge 33 = .ok (.iconst 1, 1) := by decide +kernel
theorem dX10_judge_34 : decode cX10_judge 34 = .ok (.if_icmp .ne 13, 3) := by decide +kernel
theorem dX10_judge_37 : decode cX10_judge 37 = .ok (.aload_n 0, 1) := by decide +kernel
theorem dX10_judge_38 : decode cX10_judge 38 = .ok (.getfield 29, 3) := by decide +kernel
theorem dX10_judge_41 : decode cX10_judge 41 = .ok (.invokevirtual 225, 3) := by decide +kernel
theorem dX10_judge_44 : decode cX10_judge 44 = .ok (.goto 10, 3) := by decide +kernel
theorem dX10_judge_47 : decode cX10_judge 47 = .ok (.aload_n 0, 1) := by decide +kernel
theorem dX10_judge_48 : decode cX10_judge 48 = .ok (.getfield 29, 3) := by decide +kernel
theorem dX10_judge_51 : decode cX10_judge 51 = .ok (.invokevirtual 228, 3) := by decide +kernel
theorem dX10_judge_54 : decode cX10_judge 54 = .ok (.ireturn, 1) := by decide +kernel
theorem dX10_saw_0 : decode cX10_saw 0 = .ok (.iload_n 1, 1) := by decide +kernel
theorem dX10_saw_1 : decode cX10_saw 1 = .ok (.invokestatic 113, 3) := by decide +kernel
theorem dX10_saw_4 : decode cX10_saw 4 = .ok (.ifCond .eq 21, 3) := by decide +kernel
theorem dX10_saw_7 : decode cX10_saw 7 = .ok (.aload_n 0, 1) := by decide +kernel
theorem dX10_saw_8 : decode cX10_saw 8 = .ok (.iload_n 2, 1) := by decide +kernel
theorem dX10_saw_9 : decode cX10_saw 9 = .ok (.invokevirtual 216, 3) := by decide +kernel
theorem dX10_saw_12 : decode cX10_saw 12 = .ok (.ifCond .eq 13, 3) := by decide +kernel
theorem dX10_saw_15 : decode cX10_saw 15 = .ok (.iload_n 3, 1) := by decide +kernel
theorem dX10_saw_16 : decode cX10_saw 16 = .ok (.ifCond .lt 9, 3) := by decide +kernel
theorem dX10_saw_19 : decode cX10_saw 19 = .ok (.iload_n 3, 1) := by decide +kernel
theorem dX10_saw_20 : decode cX10_saw 20 = .ok (.bipush 60, 2) := by decide +kernel
theorem dX10_saw_22 : decode cX10_saw 22 = .ok (.if_icmp .le 5, 3) := by decide +kernel
theorem dX10_saw_25 : decode cX10_saw 25 = .ok (.iconst (-1), 1) := by decide +kernel
theorem dX10_saw_26 : decode cX10_saw 26 = .ok (.ireturn, 1) := by decide +kernel
theorem dX10_saw_27 : decode cX10_saw 27 = .ok (.aload_n 0, 1) := by decide +kernel
theorem dX10_saw_28 : decode cX10_saw 28 = .ok (.getfield 231, 3) := by decide +kernel
theorem dX10_saw_31 : decode cX10_saw 31 = .ok (.ifCond .lt 12, 3) := by decide +kernel
theorem dX10_saw_34 : decode cX10_saw 34 = .ok (.aload_n 0, 1) := by decide +kernel
theorem dX10_saw_35 : decode cX10_saw 35 = .ok (.getfield 231, 3) := by decide +kernel
theorem dX10_saw_38 : decode cX10_saw 38 = .ok (.bipush 6, 2) := by decide +kernel
theorem dX10_saw_40 : decode cX10_saw 40 = .ok (.if_icmp .lt 6, 3) := by decide +kernel
theorem dX10_saw_43 : decode cX10_saw 43 = .ok (.bipush (-3), 2) := by decide +kernel
theorem dX10_saw_45 : decode cX10_saw 45 = .ok (.ireturn, 1) := by decide +kernel
theorem dX10_saw_46 : decode cX10_saw 46 = .ok (.aload_n 0, 1) := by decide +kernel
theorem dX10_saw_47 : decode cX10_saw 47 = .ok (.getfield 56, 3) := by decide +kernel
theorem dX10_saw_50 : decode cX10_saw 50 = .ok (.aload_n 0, 1) := by decide +kernel
theorem dX10_saw_51 : decode cX10_saw 51 = .ok (.getfield 231, 3) := by decide +kernel
theorem dX10_saw_54 : decode cX10_saw 54 = .ok (.iload_n 1, 1) := by decide +kernel
theorem dX10_saw_55 : decode cX10_saw 55 = .ok (.iastore, 1) := by decide +kernel
theorem dX10_saw_56 : decode cX10_saw 56 = .ok (.aload_n 0, 1) := by decide +kernel
theorem dX10_saw_57 : decode cX10_saw 57 = .ok (.getfield 59, 3) := by decide +kernel
theorem dX10_saw_60 : decode cX10_saw 60 = .ok (.aload_n 0, 1) := by decide +kernel
theorem dX10_saw_61 : decode cX10_saw 61 = .ok (.getfield 231, 3) := by decide +kernel
theorem dX10_saw_64 : decode cX10_saw 64 = .ok (.iload_n 2, 1) := by decide +kernel
theorem dX10_saw_65 : decode cX10_saw 65 = .ok (.iastore, 1) := by decide +kernel
theorem dX10_saw_66 : decode cX10_saw 66 = .ok (.aload_n 0, 1) := by decide +kernel
theorem dX10_saw_67 : decode cX10_saw 67 = .ok (.getfield 62, 3) := by decide +kernel
theorem dX10_saw_70 : decode cX10_saw 70 = .ok (.aload_n 0, 1) := by decide +kernel
theorem dX10_saw_71 : decode cX10_saw 71 = .ok (.getfield 231, 3) := by decide +kernel
theorem dX10_saw_74 : decode cX10_saw 74 = .ok (.iload_n 3, 1) := by decide +kernel
theorem dX10_saw_75 : decode cX10_saw 75 = .ok (.iastore, 1) := by decide +kernel
theorem dX10_saw_76 : decode cX10_saw 76 = .ok (.aload_n 0, 1) := by decide +kernel
theorem dX10_saw_77 : decode cX10_saw 77 = .ok (.dup, 1) := by decide +kernel
theorem dX10_saw_78 : decode cX10_saw 78 = .ok (.getfield 231, 3) := by decide +kernel
theorem dX10_saw_81 : decode cX10_saw 81 = .ok (.iconst 1, 1) := by decide +kernel
theorem dX10_saw_82 : decode cX10_saw 82 = .ok (.iadd, 1) := by decide +kernel
theorem dX10_saw_83 : decode cX10_saw 83 = .ok (.putfield 231, 3) := by decide +kernel
theorem dX10_saw_86 : decode cX10_saw 86 = .ok (.aload_n 0, 1) := by decide +kernel
theorem dX10_saw_87 : decode cX10_saw 87 = .ok (.getfield 231, 3) := by decide +kernel
theorem dX10_saw_90 : decode cX10_saw 90 = .ok (.ireturn, 1) := by decide +kernel
theorem dX10_forget_0 : decode cX10_forget 0 = .ok (.aload_n 0, 1) := by decide +kernel
theorem dX10_forget_1 : decode cX10_forget 1 = .ok (.getfield 231, 3) := by decide +kernel
theorem dX10_forget_4 : decode cX10_forget 4 = .ok (.istore_n 1, 1) := by decide +kernel
theorem dX10_forget_5 : decode cX10_forget 5 = .ok (.aload_n 0, 1) := by decide +kernel
theorem dX10_forget_6 : decode cX10_forget 6 = .ok (.iconst 0, 1) := by decide +kernel
theorem dX10_forget_7 : decode cX10_forget 7 = .ok (.putfield 231, 3) := by decide +kernel
theorem dX10_forget_10 : decode cX10_forget 10 = .ok (.iload_n 1, 1) := by decide +kernel
theorem dX10_forget_11 : decode cX10_forget 11 = .ok (.ireturn, 1) := by decide +kernel
theorem dX10_wrong_0 : decode cX10_wrong 0 = .ok (.iload_n 1, 1) := by decide +kernel
theorem dX10_wrong_1 : decode cX10_wrong 1 = .ok (.ifCond .lt 8, 3) := by decide +kernel
theorem dX10_wrong_4 : decode cX10_wrong 4 = .ok (.iload_n 1, 1) := by decide +kernel
theorem dX10_wrong_5 : decode cX10_wrong 5 = .ok (.iconst 1, 1) := by decide +kernel
theorem dX10_wrong_6 : decode cX10_wrong 6 = .ok (.if_icmp .le 5, 3) := by decide +kernel
theorem dX10_wrong_9 : decode cX10_wrong 9 = .ok (.iconst (-1), 1) := by decide +kernel
theorem dX10_wrong_10 : decode cX10_wrong 10 = .ok (.ireturn, 1) := by decide +kernel
theorem dX10_wrong_11 : decode cX10_wrong 11 = .ok (.aload_n 0, 1) := by decide +kernel
theorem dX10_wrong_12 : decode cX10_wrong 12 = .ok (.getfield 29, 3) := by decide +kernel
theorem dX10_wrong_15 : decode cX10_wrong 15 = .ok (.iconst 0, 1) := by decide +kernel
theorem dX10_wrong_16 : decode cX10_wrong 16 = .ok (.invokevirtual 143, 3) := by decide +kernel
theorem dX10_wrong_19 : decode cX10_wrong 19 = .ok (.istore_n 2, 1) := by decide +kernel
theorem dX10_wrong_20 : decode cX10_wrong 20 = .ok (.aload_n 0, 1) := by decide +kernel
theorem dX10_wrong_21 : decode cX10_wrong 21 = .ok (.getfield 29, 3) := by decide +kernel
theorem dX10_wrong_24 : decode cX10_wrong 24 = .ok (.iconst 1, 1) := by decide +kernel
theorem dX10_wrong_25 : decode cX10_wrong 25 = .ok (.invokevirtual 143, 3) := by decide +kernel
theorem dX10_wrong_28 : decode cX10_wrong 28 = .ok (.istore_n 3, 1) := by decide +kernel
theorem dX10_wrong_29 : decode cX10_wrong 29 = .ok (.aload_n 0, 1) := by decide +kernel
theorem dX10_wrong_30 : decode cX10_wrong 30 = .ok (.iload_n 2, 1) := by decide +kernel
theorem dX10_wrong_31 : decode cX10_wrong 31 = .ok (.iconst 1, 1) := by decide +kernel
theorem dX10_wrong_32 : decode cX10_wrong 32 = .ok (.isub, 1) := by decide +kernel
theorem dX10_wrong_33 : decode cX10_wrong 33 = .ok (.iload_n 3, 1) := by decide +kernel
theorem dX10_wrong_34 : decode cX10_wrong 34 = .ok (.iconst 1, 1) := by decide +kernel
theorem dX10_wrong_35 : decode cX10_wrong 35 = .ok (.iadd, 1) := by decide +kernel
theorem dX10_wrong_36 : decode cX10_wrong 36 = .ok (.invokevirtual 234, 3) := by decide +kernel
theorem dX10_wrong_39 : decode cX10_wrong 39 = .ok (.istore 4, 2) := by decide +kernel
theorem dX10_wrong_41 : decode cX10_wrong 41 = .ok (.aload_n 0, 1) := by decide +kernel
theorem dX10_wrong_42 : decode cX10_wrong 42 = .ok (.iload_n 2, 1) := by decide +kernel
theorem dX10_wrong_43 : decode cX10_wrong 43 = .ok (.iconst 1, 1) := by decide +kernel
theorem dX10_wrong_44 : decode cX10_wrong 44 = .ok (.iadd, 1) := by decide +kernel
theorem dX10_wrong_45 : decode cX10_wrong 45 = .ok (.iload_n 3, 1) := by decide +kernel
theorem dX10_wrong_46 : decode cX10_wrong 46 = .ok (.iconst 1, 1) := by decide +kernel
theorem dX10_wrong_47 : decode cX10_wrong 47 = .ok (.isub, 1) := by decide +kernel
theorem dX10_wrong_48 : decode cX10_wrong 48 = .ok (.invokevirtual 234, 3) := by decide +kernel
theorem dX10_wrong_51 : decode cX10_wrong 51 = .ok (.istore 5, 2) := by decide +kernel
theorem dX10_wrong_53 : decode cX10_wrong 53 = .ok (.iload_n 1, 1) := by decide +kernel
theorem dX10_wrong_54 : decode cX10_wrong 54 = .ok (.bipush 30, 2) := by decide +kernel
theorem dX10_wrong_56 : decode cX10_wrong 56 = .ok (.imul, 1) := by decide +kernel
theorem dX10_wrong_57 : decode cX10_wrong 57 = .ok (.istore 6, 2) := by decide +kernel
theorem dX10_wrong_59 : decode cX10_wrong 59 = .ok (.iconst 0, 1) := by decide +kernel
theorem dX10_wrong_60 : decode cX10_wrong 60 = .ok (.istore 7, 2) := by decide +kernel
theorem dX10_wrong_62 : decode cX10_wrong 62 = .ok (.iconst 0, 1) := by decide +kernel
theorem dX10_wrong_63 : decode cX10_wrong 63 = .ok (.istore 8, 2) := by decide +kernel
theorem dX10_wrong_65 : decode cX10_wrong 65 = .ok (.iload 8, 2) := by decide +kernel
theorem dX10_wrong_67 : decode cX10_wrong 67 = .ok (.bipush 30, 2) := by decide +kernel
theorem dX10_wrong_69 : decode cX10_wrong 69 = .ok (.if_icmp .ge 62, 3) := by decide +kernel
theorem dX10_wrong_72 : decode cX10_wrong 72 = .ok (.iload 6, 2) := by decide +kernel
theorem dX10_wrong_74 : decode cX10_wrong 74 = .ok (.iload 8, 2) := by decide +kernel
theorem dX10_wrong_76 : decode cX10_wrong 76 = .ok (.iadd, 1) := by decide +kernel
theorem dX10_wrong_77 : decode cX10_wrong 77 = .ok (.aload_n 0, 1) := by decide +kernel
theorem dX10_wrong_78 : decode cX10_wrong 78 = .ok (.getfield 29, 3) := by decide +kernel
theorem dX10_wrong_81 : decode cX10_wrong 81 = .ok (.getfield 123, 3) := by decide +kernel
theorem dX10_wrong_84 : decode cX10_wrong 84 = .ok (.if_icmp .ge 47, 3) := by decide +kernel
theorem dX10_wrong_87 : decode cX10_wrong 87 = .ok (.aload_n 0, 1) := by decide +kernel
theorem dX10_wrong_88 : decode cX10_wrong 88 = .ok (.getfield 29, 3) := by decide +kernel
theorem dX10_wrong_91 : decode cX10_wrong 91 = .ok (.iload 6, 2) := by decide +kernel
theorem dX10_wrong_93 : decode cX10_wrong 93 = .ok (.iload 8, 2) := by decide +kernel
theorem dX10_wrong_95 : decode cX10_wrong 95 = .ok (.iadd, 1) := by decide +kernel
theorem dX10_wrong_96 : decode cX10_wrong 96 = .ok (.invokevirtual 213, 3) := by decide +kernel
theorem dX10_wrong_99 : decode cX10_wrong 99 = .ok (.iconst 1, 1) := by decide +kernel
theorem dX10_wrong_100 : decode cX10_wrong 100 = .ok (.if_icmp .ne 11, 3) := by decide +kernel
theorem dX10_wrong_103 : decode cX10_wrong 103 = .ok (.iload 5, 2) := by decide +kernel
theorem dX10_wrong_105 : decode cX10_wrong 105 = .ok (.ifCond .eq 20, 3) := by decide +kernel
theorem dX10_wrong_108 : decode cX10_wrong 108 = .ok (.goto 8, 3) := by decide +kernel
theorem dX10_wrong_111 : decode cX10_wrong 111 = .ok (.iload 4, 2) := by decide +kernel
theorem dX10_wrong_113 : decode cX10_wrong 113 = .ok (.ifCond .eq 12, 3) := by decide +kernel
theorem dX10_wrong_116 : decode cX10_wrong 116 = .ok (.iload 7, 2) := by decide +kernel
theorem dX10_wrong_118 : decode cX10_wrong 118 = .ok (.iconst 1, 1) := by decide +kernel
theorem dX10_wrong_119 : decode cX10_wrong 119 = .ok (.iload 8, 2) := by decide +kernel
theorem dX10_wrong_121 : decode cX10_wrong 121 = .ok (.ishl, 1) := by decide +kernel
theorem dX10_wrong_122 : decode cX10_wrong 122 = .ok (.ior, 1) := by decide +kernel
theorem dX10_wrong_123 : decode cX10_wrong 123 = .ok (.istore 7, 2) := by decide +kernel
theorem dX10_wrong_125 : decode cX10_wrong 125 = .ok (.iinc 8 1, 3) := by decide +kernel
theorem dX10_wrong_128 : decode cX10_wrong 128 = .ok (.goto (-63), 3) := by decide +kernel
theorem dX10_wrong_131 : decode cX10_wrong 131 = .ok (.iload 7, 2) := by decide +kernel
theorem dX10_wrong_133 : decode cX10_wrong 133 = .ok (.ireturn, 1) := by decide +kernel
theorem dX10_asTold_0 : decode cX10_asTold 0 = .ok (.aload_n 0, 1) := by decide +kernel
theorem dX10_asTold_1 : decode cX10_asTold 1 = .ok (.aload_n 0, 1) := by decide +kernel
theorem dX10_asTold_2 : decode cX10_asTold 2 = .ok (.getfield 29, 3) := by decide +kernel
theorem dX10_asTold_5 : decode cX10_asTold 5 = .ok (.iconst 0, 1) := by decide +kernel
theorem dX10_asTold_6 : decode cX10_asTold 6 = .ok (.invokevirtual 143, 3) := by decide +kernel
theorem dX10_asTold_9 : decode cX10_asTold 9 = .ok (.aload_n 0, 1) := by decide +kernel
theorem dX10_asTold_10 : decode cX10_asTold 10 = .ok (.getfield 29, 3) := by decide +kernel
theorem dX10_asTold_13 : decode cX10_asTold 13 = .ok (.iconst 1, 1) := by decide +kernel
theorem dX10_asTold_14 : decode cX10_asTold 14 = .ok (.invokevirtual 143, 3) := by decide +kernel
theorem dX10_asTold_17 : decode cX10_asTold 17 = .ok (.invokevirtual 234, 3) := by decide +kernel
theorem dX10_asTold_20 : decode cX10_asTold 20 = .ok (.ifCond .eq 7, 3) := by decide +kernel
theorem dX10_asTold_23 : decode cX10_asTold 23 = .ok (.iconst 1, 1) := by decide +kernel
theorem dX10_asTold_24 : decode cX10_asTold 24 = .ok (.goto 4, 3) := by decide +kernel
theorem dX10_asTold_27 : decode cX10_asTold 27 = .ok (.iconst 0, 1) := by decide +kernel
theorem dX10_asTold_28 : decode cX10_asTold 28 = .ok (.ireturn, 1) := by decide +kernel
theorem dX10_soonest_0 : decode cX10_soonest 0 = .ok (.iload_n 1, 1) := by decide +kernel
theorem dX10_soonest_1 : decode cX10_soonest 1 = .ok (.iconst 1, 1) := by decide +kernel
theorem dX10_soonest_2 : decode cX10_soonest 2 = .ok (.if_icmp .lt 31, 3) := by decide +kernel
theorem dX10_soonest_5 : decode cX10_soonest 5 = .ok (.iload_n 1, 1) := by decide +kernel
theorem dX10_soonest_6 : decode cX10_soonest 6 = .ok (.bipush 99, 2) := by decide +kernel
theorem dX10_soonest_8 : decode cX10_soonest 8 = .ok (.if_icmp .gt 25, 3) := by decide +kernel
theorem dX10_soonest_11 : decode cX10_soonest 11 = .ok (.iload_n 2, 1) := by decide +kernel
theorem dX10_soonest_12 : decode cX10_soonest 12 = .ok (.iconst 1, 1) := by decide +kernel
theorem dX10_soonest_13 : decode cX10_soonest 13 = .ok (.if_icmp .lt 20, 3) := by decide +kernel
theorem dX10_soonest_16 : decode cX10_soonest 16 = .ok (.iload_n 2, 1) := by decide +kernel
theorem dX10_soonest_17 : decode cX10_soonest 17 = .ok (.bipush 9, 2) := by decide +kernel
theorem dX10_soonest_19 : decode cX10_soonest 19 = .ok (.if_icmp .gt 14, 3) := by decide +kernel
theorem dX10_soonest_22 : decode cX10_soonest 22 = .ok (.iload_n 3, 1) := by decide +kernel
theorem dX10_soonest_23 : decode cX10_soonest 23 = .ok (.iconst 1, 1) := by decide +kernel
theorem dX10_soonest_24 : decode cX10_soonest 24 = .ok (.if_icmp .lt 9, 3) := by decide +kernel
theorem dX10_soonest_27 : decode cX10_soonest 27 = .ok (.iload_n 3, 1) := by decide +kernel
theorem dX10_soonest_28 : decode cX10_soonest 28 = .ok (.bipush 9, 2) := by decide +kernel
theorem dX10_soonest_30 : decode cX10_soonest 30 = .ok (.if_icmp .le 5, 3) := by decide +kernel
theorem dX10_soonest_33 : decode cX10_soonest 33 = .ok (.iconst (-1), 1) := by decide +kernel
theorem dX10_soonest_34 : decode cX10_soonest 34 = .ok (.ireturn, 1) := by decide +kernel
theorem dX10_soonest_35 : decode cX10_soonest 35 = .ok (.bipush (-9), 2) := by decide +kernel
theorem dX10_soonest_37 : decode cX10_soonest 37 = .ok (.istore 4, 2) := by decide +kernel
theorem dX10_soonest_39 : decode cX10_soonest 39 = .ok (.iconst 0, 1) := by decide +kernel
theorem dX10_soonest_40 : decode cX10_soonest 40 = .ok (.istore 5, 2) := by decide +kernel
theorem dX10_soonest_42 : decode cX10_soonest 42 = .ok (.iload 5, 2) := by decide +kernel
theorem dX10_soonest_44 : decode cX10_soonest 44 = .ok (.bipush 60, 2) := by decide +kernel
theorem dX10_soonest_46 : decode cX10_soonest 46 = .ok (.if_icmp .gt 83, 3) := by decide +kernel
theorem dX10_soonest_49 : decode cX10_soonest 49 = .ok (.iload 5, 2) := by decide +kernel
theorem dX10_soonest_51 : decode cX10_soonest 51 = .ok (.iload_n 2, 1) := by decide +kernel
theorem dX10_soonest_52 : decode cX10_soonest 52 = .ok (.imul, 1) := by decide +kernel
theorem dX10_soonest_53 : decode cX10_soonest 53 = .ok (.iload_n 1, 1) := by decide +kernel
theorem dX10_soonest_54 : decode cX10_soonest 54 = .ok (.if_icmp .gt 75, 3) := by decide +kernel
theorem dX10_soonest_57 : decode cX10_soonest 57 = .ok (.iload_n 1, 1) := by decide +kernel
theorem dX10_soonest_58 : decode cX10_soonest 58 = .ok (.iload 5, 2) := by decide +kernel
theorem dX10_soonest_60 : decode cX10_soonest 60 = .ok (.iload_n 2, 1) := by decide +kernel
theorem dX10_soonest_61 : decode cX10_soonest 61 = .ok (.imul, 1) := by decide +kernel
theorem dX10_soonest_62 : decode cX10_soonest 62 = .ok (.isub, 1) := by decide +kernel
theorem dX10_soonest_63 : decode cX10_soonest 63 = .ok (.istore 6, 2) := by decide +kernel
theorem dX10_soonest_65 : decode cX10_soonest 65 = .ok (.iload 6, 2) := by decide +kernel
theorem dX10_soonest_67 : decode cX10_soonest 67 = .ok (.iload_n 3, 1) := by decide +kernel
theorem dX10_soonest_68 : decode cX10_soonest 68 = .ok (.idiv, 1) := by decide +kernel
theorem dX10_soonest_69 : decode cX10_soonest 69 = .ok (.istore 7, 2) := by decide +kernel
theorem dX10_soonest_71 : decode cX10_soonest 71 = .ok (.iload 5, 2) := by decide +kernel
theorem dX10_soonest_73 : decode cX10_soonest 73 = .ok (.iload 7, 2) := by decide +kernel
theorem dX10_soonest_75 : decode cX10_soonest 75 = .ok (.iadd, 1) := by decide +kernel
theorem dX10_soonest_76 : decode cX10_soonest 76 = .ok (.istore 8, 2) := by decide +kernel
theorem dX10_soonest_78 : decode cX10_soonest 78 = .ok (.iload 7, 2) := by decide +kernel
theorem dX10_soonest_80 : decode cX10_soonest 80 = .ok (.iload_n 3, 1) := by decide +kernel
theorem dX10_soonest_81 : decode cX10_soonest 81 = .ok (.imul, 1) := by decide +kernel
theorem dX10_soonest_82 : decode cX10_soonest 82 = .ok (.iload 6, 2) := by decide +kernel
theorem dX10_soonest_84 : decode cX10_soonest 84 = .ok (.if_icmp .ne 39, 3) := by decide +kernel
theorem dX10_soonest_87 : decode cX10_soonest 87 = .ok (.iload 8, 2) := by decide +kernel
theorem dX10_soonest_89 : decode cX10_soonest 89 = .ok (.bipush 60, 2) := by decide +kernel
theorem dX10_soonest_91 : decode cX10_soonest 91 = .ok (.if_icmp .gt 32, 3) := by decide +kernel
theorem dX10_soonest_94 : decode cX10_soonest 94 = .ok (.aload_n 0, 1) := by decide +kernel
theorem dX10_soonest_95 : decode cX10_soonest 95 = .ok (.iload 5, 2) := by decide +kernel
theorem dX10_soonest_97 : decode cX10_soonest 97 = .ok (.iload 7, 2) := by decide +kernel
theorem dX10_soonest_99 : decode cX10_soonest 99 = .ok (.invokevirtual 238, 3) := by decide +kernel
theorem dX10_soonest_102 : decode cX10_soonest 102 = .ok (.ifCond .eq 21, 3) := by decide +kernel
theorem dX10_soonest_105 : decode cX10_soonest 105 = .ok (.iload 4, 2) := by decide +kernel
theorem dX10_soonest_107 : decode cX10_soonest 107 = .ok (.bipush (-9), 2) := by decide +kernel
theorem dX10_soonest_109 : decode cX10_soonest 109 = .ok (.if_icmp .eq 10, 3) := by decide +kernel
theorem dX10_soonest_112 : decode cX10_soonest 112 = .ok (.iload 8, 2) := by decide +kernel
theorem dX10_soonest_114 : decode cX10_soonest 114 = .ok (.iload 4, 2) := by decide +kernel
theorem dX10_soonest_116 : decode cX10_soonest 116 = .ok (.if_icmp .ge 7, 3) := by decide +kernel
theorem dX10_soonest_119 : decode cX10_soonest 119 = .ok (.iload 8, 2) := by decide +kernel
theorem dX10_soonest_121 : decode cX10_soonest 121 = .ok (.istore 4, 2) := by decide +kernel
theorem dX10_soonest_123 : decode cX10_soonest 123 = .ok (.iinc 5 1, 3) := by decide +kernel
theorem dX10_soonest_126 : decode cX10_soonest 126 = .ok (.goto (-84), 3) := by decide +kernel
theorem dX10_soonest_129 : decode cX10_soonest 129 = .ok (.iload 4, 2) := by decide +kernel
theorem dX10_soonest_131 : decode cX10_soonest 131 = .ok (.ireturn, 1) := by decide +kernel
theorem dX10_rate_0 : decode cX10_rate 0 = .ok (.iload_n 1, 1) := by decide +kernel
theorem dX10_rate_1 : decode cX10_rate 1 = .ok (.ifCond .lt 16, 3) := by decide +kernel
theorem dX10_rate_4 : decode cX10_rate 4 = .ok (.iload_n 1, 1) := by decide +kernel
theorem dX10_rate_5 : decode cX10_rate 5 = .ok (.bipush 6, 2) := by decide +kernel
theorem dX10_rate_7 : decode cX10_rate 7 = .ok (.if_icmp .ge 10, 3) := by decide +kernel
theorem dX10_rate_10 : decode cX10_rate 10 = .ok (.iload_n 2, 1) := by decide +kernel
theorem dX10_rate_11 : decode cX10_rate 11 = .ok (.invokestatic 113, 3) := by decide +kernel
theorem dX10_rate_14 : decode cX10_rate 14 = .ok (.ifCond .ne 6, 3) := by decide +kernel
theorem dX10_rate_17 : decode cX10_rate 17 = .ok (.ldc 241, 2) := by decide +kernel
theorem dX10_rate_19 : decode cX10_rate 19 = .ok (.ireturn, 1) := by decide +kernel
theorem dX10_rate_20 : decode cX10_rate 20 = .ok (.aload_n 0, 1) := by decide +kernel
theorem dX10_rate_21 : decode cX10_rate 21 = .ok (.getfield 48, 3) := by decide +kernel
theorem dX10_rate_24 : decode cX10_rate 24 = .ok (.iload_n 1, 1) := by decide +kernel
theorem dX10_rate_25 : decode cX10_rate 25 = .ok (.aaload, 1) := by decide +kernel
theorem dX10_rate_26 : decode cX10_rate 26 = .ok (.astore_n 3, 1) := by decide +kernel
theorem dX10_rate_27 : decode cX10_rate 27 = .ok (.aload_n 3, 1) := by decide +kernel
theorem dX10_rate_28 : decode cX10_rate 28 = .ok (.ifnonnull 8, 3) := by decide +kernel
theorem dX10_rate_31 : decode cX10_rate 31 = .ok (.ldc 241, 2) := by decide +kernel
theorem dX10_rate_33 : decode cX10_rate 33 = .ok (.goto 9, 3) := by decide +kernel
theorem dX10_rate_36 : decode cX10_rate 36 = .ok (.aload_n 3, 1) := by decide +kernel
theorem dX10_rate_37 : decode cX10_rate 37 = .ok (.aload_n 0, 1) := by decide +kernel
theorem dX10_rate_38 : decode cX10_rate 38 = .ok (.iload_n 2, 1) := by decide +kernel
theorem dX10_rate_39 : decode cX10_rate 39 = .ok (.invokevirtual 242, 3) := by decide +kernel
theorem dX10_rate_42 : decode cX10_rate 42 = .ok (.ireturn, 1) := by decide +kernel
theorem dX10_keep_0 : decode cX10_keep 0 = .ok (.iload_n 1, 1) := by decide +kernel
theorem dX10_keep_1 : decode cX10_keep 1 = .ok (.ifCond .lt 8, 3) := by decide +kernel
theorem dX10_keep_4 : decode cX10_keep 4 = .ok (.iload_n 1, 1) := by decide +kernel
theorem dX10_keep_5 : decode cX10_keep 5 = .ok (.iconst 1, 1) := by decide +kernel
theorem dX10_keep_6 : decode cX10_keep 6 = .ok (.if_icmp .le 5, 3) := by decide +kernel
theorem dX10_keep_9 : decode cX10_keep 9 = .ok (.iconst (-1), 1) := by decide +kernel
theorem dX10_keep_10 : decode cX10_keep 10 = .ok (.ireturn, 1) := by decide +kernel
theorem dX10_keep_11 : decode cX10_keep 11 = .ok (.aload_n 0, 1) := by decide +kernel
theorem dX10_keep_12 : decode cX10_keep 12 = .ok (.iload_n 1, 1) := by decide +kernel
theorem dX10_keep_13 : decode cX10_keep 13 = .ok (.invokevirtual 246, 3) := by decide +kernel
theorem dX10_keep_16 : decode cX10_keep 16 = .ok (.astore_n 2, 1) := by decide +kernel
theorem dX10_keep_17 : decode cX10_keep 17 = .ok (.aload_n 2, 1) := by decide +kernel
theorem dX10_keep_18 : decode cX10_keep 18 = .ok (.aload_n 0, 1) := by decide +kernel
theorem dX10_keep_19 : decode cX10_keep 19 = .ok (.getfield 29, 3) := by decide +kernel
theorem dX10_keep_22 : decode cX10_keep 22 = .ok (.invokevirtual 250, 3) := by decide +kernel
theorem dX10_keep_25 : decode cX10_keep 25 = .ok (.aload_n 2, 1) := by decide +kernel
theorem dX10_keep_26 : decode cX10_keep 26 = .ok (.iconst 1, 1) := by decide +kernel
theorem dX10_keep_27 : decode cX10_keep 27 = .ok (.putfield 254, 3) := by decide +kernel
theorem dX10_keep_30 : decode cX10_keep 30 = .ok (.aload_n 2, 1) := by decide +kernel
theorem dX10_keep_31 : decode cX10_keep 31 = .ok (.getfield 123, 3) := by decide +kernel
theorem dX10_keep_34 : decode cX10_keep 34 = .ok (.ireturn, 1) := by decide +kernel
theorem dX10_back_0 : decode cX10_back 0 = .ok (.iload_n 1, 1) := by decide +kernel
theorem dX10_back_1 : decode cX10_back 1 = .ok (.ifCond .lt 8, 3) := by decide +kernel
theorem dX10_back_4 : decode cX10_back 4 = .ok (.iload_n 1, 1) := by decide +kernel
theorem dX10_back_5 : decode cX10_back 5 = .ok (.iconst 1, 1) := by decide +kernel
theorem dX10_back_6 : decode cX10_back 6 = .ok (.if_icmp .le 5, 3) := by decide +kernel
theorem dX10_back_9 : decode cX10_back 9 = .ok (.iconst (-1), 1) := by decide +kernel
theorem dX10_back_10 : decode cX10_back 10 = .ok (.ireturn, 1) := by decide +kernel
theorem dX10_back_11 : decode cX10_back 11 = .ok (.aload_n 0, 1) := by decide +kernel
theorem dX10_back_12 : decode cX10_back 12 = .ok (.iload_n 1, 1) := by decide +kernel
theorem dX10_back_13 : decode cX10_back 13 = .ok (.invokevirtual 246, 3) := by decide +kernel
theorem dX10_back_16 : decode cX10_back 16 = .ok (.astore_n 2, 1) := by decide +kernel
theorem dX10_back_17 : decode cX10_back 17 = .ok (.aload_n 2, 1) := by decide +kernel
theorem dX10_back_18 : decode cX10_back 18 = .ok (.getfield 254, 3) := by decide +kernel
theorem dX10_back_21 : decode cX10_back 21 = .ok (.ifCond .ne 6, 3) := by decide +kernel
theorem dX10_back_24 : decode cX10_back 24 = .ok (.bipush (-2), 2) := by decide +kernel
theorem dX10_back_26 : decode cX10_back 26 = .ok (.ireturn, 1) := by decide +kernel
theorem dX10_back_27 : decode cX10_back 27 = .ok (.aload_n 0, 1) := by decide +kernel
theorem dX10_back_28 : decode cX10_back 28 = .ok (.getfield 29, 3) := by decide +kernel
theorem dX10_back_31 : decode cX10_back 31 = .ok (.aload_n 2, 1) := by decide +kernel
theorem dX10_back_32 : decode cX10_back 32 = .ok (.invokevirtual 250, 3) := by decide +kernel
theorem dX10_back_35 : decode cX10_back 35 = .ok (.aload_n 0, 1) := by decide +kernel
theorem dX10_back_36 : decode cX10_back 36 = .ok (.iconst 0, 1) := by decide +kernel
theorem dX10_back_37 : decode cX10_back 37 = .ok (.putfield 126, 3) := by decide +kernel
theorem dX10_back_40 : decode cX10_back 40 = .ok (.aload_n 0, 1) := by decide +kernel
theorem dX10_back_41 : decode cX10_back 41 = .ok (.getfield 29, 3) := by decide +kernel
theorem dX10_back_44 : decode cX10_back 44 = .ok (.getfield 123, 3) := by decide +kernel
theorem dX10_back_47 : decode cX10_back 47 = .ok (.ireturn, 1) := by decide +kernel
theorem dX10_count_0 : decode cX10_count 0 = .ok (.iload_n 1, 1) := by decide +kernel
theorem dX10_count_1 : decode cX10_count 1 = .ok (.tableswitch 84 0 5 #[39, 47, 55, 63, 71, 76], 39) := by decide +kernel
theorem dX10_count_40 : decode cX10_count 40 = .ok (.aload_n 0, 1) := by decide +kernel
theorem dX10_count_41 : decode cX10_count 41 = .ok (.getfield 19, 3) := by decide +kernel
theorem dX10_count_44 : decode cX10_count 44 = .ok (.getfield 129, 3) := by decide +kernel
theorem dX10_count_47 : decode cX10_count 47 = .ok (.ireturn, 1) := by decide +kernel
theorem dX10_count_48 : decode cX10_count 48 = .ok (.aload_n 0, 1) := by decide +kernel
theorem dX10_count_49 : decode cX10_count 49 = .ok (.getfield 19, 3) := by decide +kernel
theorem dX10_count_52 : decode cX10_count 52 = .ok (.getfield 258, 3) := by decide +kernel
theorem dX10_count_55 : decode cX10_count 55 = .ok (.ireturn, 1) := by decide +kernel
theorem dX10_count_56 : decode cX10_count 56 = .ok (.aload_n 0, 1) := by decide +kernel
theorem dX10_count_57 : decode cX10_count 57 = .ok (.getfield 19, 3) := by decide +kernel
theorem dX10_count_60 : decode cX10_count 60 = .ok (.getfield 219, 3) := by decide +kernel
theorem dX10_count_63 : decode cX10_count 63 = .ok (.ireturn, 1) := by decide +kernel
theorem dX10_count_64 : decode cX10_count 64 = .ok (.aload_n 0, 1) := by decide +kernel
theorem dX10_count_65 : decode cX10_count 65 = .ok (.getfield 19, 3) := by decide +kernel
theorem dX10_count_68 : decode cX10_count 68 = .ok (.getfield 261, 3) := by decide +kernel
theorem dX10_count_71 : decode cX10_count 71 = .ok (.ireturn, 1) := by decide +kernel
theorem dX10_count_72 : decode cX10_count 72 = .ok (.aload_n 0, 1) := by decide +kernel
theorem dX10_count_73 : decode cX10_count 73 = .ok (.getfield 231, 3) := by decide +kernel
theorem dX10_count_76 : decode cX10_count 76 = .ok (.ireturn, 1) := by decide +kernel
theorem dX10_count_77 : decode cX10_count 77 = .ok (.aload_n 0, 1) := by decide +kernel
theorem dX10_count_78 : decode cX10_count 78 = .ok (.getfield 12, 3) := by decide +kernel
theorem dX10_count_81 : decode cX10_count 81 = .ok (.getfield 88, 3) := by decide +kernel
theorem dX10_count_84 : decode cX10_count 84 = .ok (.ireturn, 1) := by decide +kernel
theorem dX10_count_85 : decode cX10_count 85 = .ok (.iconst (-1), 1) := by decide +kernel
theorem dX10_count_86 : decode cX10_count 86 = .ok (.ireturn, 1) := by decide +kernel
theorem dX10_trace_0 : decode cX10_trace 0 = .ok (.aload_n 0, 1) := by decide +kernel
theorem dX10_trace_1 : decode cX10_trace 1 = .ok (.getfield 264, 3) := by decide +kernel
theorem dX10_trace_4 : decode cX10_trace 4 = .ok (.lreturn, 1) := by decide +kernel
theorem dX10_beginAnew_0 : decode cX10_beginAnew 0 = .ok (.aload_n 0, 1) := by decide +kernel
theorem dX10_beginAnew_1 : decode cX10_beginAnew 1 = .ok (.getfield 29, 3) := by decide +kernel
theorem dX10_beginAnew_4 : decode cX10_beginAnew 4 = .ok (.invokevirtual 268, 3) := by decide +kernel
theorem dX10_beginAnew_7 : decode cX10_beginAnew 7 = .ok (.aload_n 0, 1) := by decide +kernel
theorem dX10_beginAnew_8 : decode cX10_beginAnew 8 = .ok (.getfield 33, 3) := by decide +kernel
theorem dX10_beginAnew_11 : decode cX10_beginAnew 11 = .ok (.iconst 0, 1) := by decide +kernel
theorem dX10_beginAnew_12 : decode cX10_beginAnew 12 = .ok (.putfield 254, 3) := by decide +kernel
theorem dX10_beginAnew_15 : decode cX10_beginAnew 15 = .ok (.aload_n 0, 1) := by decide +kernel
theorem dX10_beginAnew_16 : decode cX10_beginAnew 16 = .ok (.getfield 36, 3) := by decide +kernel
theorem dX10_beginAnew_19 : decode cX10_beginAnew 19 = .ok (.iconst 0, 1) := by decide +kernel
theorem dX10_beginAnew_20 : decode cX10_beginAnew 20 = .ok (.putfield 254, 3) := by decide +kernel
theorem dX10_beginAnew_23 : decode cX10_beginAnew 23 = .ok (.aload_n 0, 1) := by decide +kernel
theorem dX10_beginAnew_24 : decode cX10_beginAnew 24 = .ok (.iconst 0, 1) := by decide +kernel
theorem dX10_beginAnew_25 : decode cX10_beginAnew 25 = .ok (.putfield 126, 3) := by decide +kernel
theorem dX10_beginAnew_28 : decode cX10_beginAnew 28 = .ok (.aload_n 0, 1) := by decide +kernel
theorem dX10_beginAnew_29 : decode cX10_beginAnew 29 = .ok (.iconst 0, 1) := by decide +kernel
theorem dX10_beginAnew_30 : decode cX10_beginAnew 30 = .ok (.putfield 231, 3) := by decide +kernel
theorem dX10_beginAnew_33 : decode cX10_beginAnew 33 = .ok (.return_, 1) := by decide +kernel
theorem dX10_isGood_0 : decode cX10_isGood 0 = .ok (.iload_n 1, 1) := by decide +kernel
theorem dX10_isGood_1 : decode cX10_isGood 1 = .ok (.ifCond .lt 18, 3) := by decide +kernel
theorem dX10_isGood_4 : decode cX10_isGood 4 = .ok (.iload_n 1, 1) := by decide +kernel
theorem dX10_isGood_5 : decode cX10_isGood 5 = .ok (.aload_n 0, 1) := by decide +kernel
theorem dX10_isGood_6 : decode cX10_isGood 6 = .ok (.getfield 19, 3) := by decide +kernel
theorem dX10_isGood_9 : decode cX10_isGood 9 = .ok (.getfield 129, 3) := by decide +kernel
theorem dX10_isGood_12 : decode cX10_isGood 12 = .ok (.if_icmp .ge 7, 3) := by decide +kernel
theorem dX10_isGood_15 : decode cX10_isGood 15 = .ok (.iconst 1, 1) := by decide +kernel
theorem dX10_isGood_16 : decode cX10_isGood 16 = .ok (.goto 4, 3) := by decide +kernel
theorem dX10_isGood_19 : decode cX10_isGood 19 = .ok (.iconst 0, 1) := by decide +kernel
theorem dX10_isGood_20 : decode cX10_isGood 20 = .ok (.ireturn, 1) := by decide +kernel
theorem dX10_isCell_0 : decode cX10_isCell 0 = .ok (.iload_n 1, 1) := by decide +kernel
theorem dX10_isCell_1 : decode cX10_isCell 1 = .ok (.ifCond .lt 18, 3) := by decide +kernel
theorem dX10_isCell_4 : decode cX10_isCell 4 = .ok (.iload_n 1, 1) := by decide +kernel
theorem dX10_isCell_5 : decode cX10_isCell 5 = .ok (.aload_n 0, 1) := by decide +kernel
theorem dX10_isCell_6 : decode cX10_isCell 6 = .ok (.getfield 19, 3) := by decide +kernel
theorem dX10_isCell_9 : decode cX10_isCell 9 = .ok (.getfield 261, 3) := by decide +kernel
theorem dX10_isCell_12 : decode cX10_isCell 12 = .ok (.if_icmp .ge 7, 3) := by decide +kernel
theorem dX10_isCell_15 : decode cX10_isCell 15 = .ok (.iconst 1, 1) := by decide +kernel
theorem dX10_isCell_16 : decode cX10_isCell 16 = .ok (.goto 4, 3) := by decide +kernel
theorem dX10_isCell_19 : decode cX10_isCell 19 = .ok (.iconst 0, 1) := by decide +kernel
theorem dX10_isCell_20 : decode cX10_isCell 20 = .ok (.ireturn, 1) := by decide +kernel
theorem dX10_isSide_0 : decode cX10_isSide 0 = .ok (.iload_n 0, 1) := by decide +kernel
theorem dX10_isSide_1 : decode cX10_isSide 1 = .ok (.ifCond .eq 8, 3) := by decide +kernel
theorem dX10_isSide_4 : decode cX10_isSide 4 = .ok (.iload_n 0, 1) := by decide +kernel
theorem dX10_isSide_5 : decode cX10_isSide 5 = .ok (.iconst 1, 1) := by decide +kernel
theorem dX10_isSide_6 : decode cX10_isSide 6 = .ok (.if_icmp .ne 7, 3) := by decide +kernel
theorem dX10_isSide_9 : decode cX10_isSide 9 = .ok (.iconst 1, 1) := by decide +kernel
theorem dX10_isSide_10 : decode cX10_isSide 10 = .ok (.goto 4, 3) := by decide +kernel
theorem dX10_isSide_13 : decode cX10_isSide 13 = .ok (.iconst 0, 1) := by decide +kernel
theorem dX10_isSide_14 : decode cX10_isSide 14 = .ok (.ireturn, 1) := by decide +kernel
theorem dX10_imageOf_0 : decode cX10_imageOf 0 = .ok (.iload_n 1, 1) := by decide +kernel
theorem dX10_imageOf_1 : decode cX10_imageOf 1 = .ok (.ifCond .ne 10, 3) := by decide +kernel
theorem dX10_imageOf_4 : decode cX10_imageOf 4 = .ok (.aload_n 0, 1) := by decide +kernel
theorem dX10_imageOf_5 : decode cX10_imageOf 5 = .ok (.getfield 33, 3) := by decide +kernel
theorem dX10_imageOf_8 : decode cX10_imageOf 8 = .ok (.goto 7, 3) := by decide +kernel
theorem dX10_imageOf_11 : decode cX10_imageOf 11 = .ok (.aload_n 0, 1) := by decide +kernel
theorem dX10_imageOf_12 : decode cX10_imageOf 12 = .ok (.getfield 36, 3) := by decide +kernel
theorem dX10_imageOf_15 : decode cX10_imageOf 15 = .ok (.areturn, 1) := by decide +kernel
theorem dX10_remember_0 : decode cX10_remember 0 = .ok (.aload_n 0, 1) := by decide +kernel
theorem dX10_remember_1 : decode cX10_remember 1 = .ok (.getfield 126, 3) := by decide +kernel
theorem dX10_remember_4 : decode cX10_remember 4 = .ok (.bipush 10, 2) := by decide +kernel
theorem dX10_remember_6 : decode cX10_remember 6 = .ok (.if_icmp .lt 24, 3) := by decide +kernel
theorem dX10_remember_9 : decode cX10_remember 9 = .ok (.aload_n 0, 1) := by decide +kernel
theorem dX10_remember_10 : decode cX10_remember 10 = .ok (.getfield 52, 3) := by decide +kernel
theorem dX10_remember_13 : decode cX10_remember 13 = .ok (.iconst 1, 1) := by decide +kernel
theorem dX10_remember_14 : decode cX10_remember 14 = .ok (.aload_n 0, 1) := by decide +kernel
theorem dX10_remember_15 : decode cX10_remember 15 = .ok (.getfield 52, 3) := by decide +kernel
theorem dX10_remember_18 : decode cX10_remember 18 = .ok (.iconst 0, 1) := by decide +kernel
theorem dX10_remember_19 : decode cX10_remember 19 = .ok (.bipush 9, 2) := by decide +kernel
theorem dX10_remember_21 : decode cX10_remember 21 = .ok (.invokestatic 271, 3) := by decide +kernel
theorem dX10_remember_24 : decode cX10_remember 24 = .ok (.aload_n 0, 1) := by decide +kernel
theorem dX10_remember_25 : decode cX10_remember 25 = .ok (.bipush 9, 2) := by decide +kernel
theorem dX10_remember_27 : decode cX10_remember 27 = .ok (.putfield 126, 3) := by decide +kernel
theorem dX10_remember_30 : decode cX10_remember 30 = .ok (.aload_n 0, 1) := by decide +kernel
theorem dX10_remember_31 : decode cX10_remember 31 = .ok (.getfield 126, 3) := by decide +kernel
theorem dX10_remember_34 : decode cX10_remember 34 = .ok (.ifCond .lt 23, 3) := by decide +kernel
theorem dX10_remember_37 : decode cX10_remember 37 = .ok (.aload_n 0, 1) := by decide +kernel
theorem dX10_remember_38 : decode cX10_remember 38 = .ok (.getfield 52, 3) := by decide +kernel
theorem dX10_remember_41 : decode cX10_remember 41 = .ok (.aload_n 0, 1) := by decide +kernel
theorem dX10_remember_42 : decode cX10_remember 42 = .ok (.getfield 126, 3) := by decide +kernel
theorem dX10_remember_45 : decode cX10_remember 45 = .ok (.iload_n 1, 1) := by decide +kernel
theorem dX10_remember_46 : decode cX10_remember 46 = .ok (.iastore, 1) := by decide +kernel
theorem dX10_remember_47 : decode cX10_remember 47 = .ok (.aload_n 0, 1) := by decide +kernel
theorem dX10_remember_48 : decode cX10_remember 48 = .ok (.dup, 1) := by decide +kernel
theorem dX10_remember_49 : decode cX10_remember 49 = .ok (.getfield 126, 3) := by decide +kernel
theorem dX10_remember_52 : decode cX10_remember 52 = .ok (.iconst 1, 1) := by decide +kernel
theorem dX10_remember_53 : decode cX10_remember 53 = .ok (.iadd, 1) := by decide +kernel
theorem dX10_remember_54 : decode cX10_remember 54 = .ok (.putfield 126, 3) := by decide +kernel
theorem dX10_remember_57 : decode cX10_remember 57 = .ok (.return_, 1) := by decide +kernel
theorem dX10_ownValue_0 : decode cX10_ownValue 0 = .ok (.aload_n 0, 1) := by decide +kernel
theorem dX10_ownValue_1 : decode cX10_ownValue 1 = .ok (.getfield 19, 3) := by decide +kernel
theorem dX10_ownValue_4 : decode cX10_ownValue 4 = .ok (.iload_n 1, 1) := by decide +kernel
theorem dX10_ownValue_5 : decode cX10_ownValue 5 = .ok (.aload_n 0, 1) := by decide +kernel
theorem dX10_ownValue_6 : decode cX10_ownValue 6 = .ok (.getfield 29, 3) := by decide +kernel
theorem dX10_ownValue_9 : decode cX10_ownValue 9 = .ok (.iload_n 1, 1) := by decide +kernel
theorem dX10_ownValue_10 : decode cX10_ownValue 10 = .ok (.aload_n 0, 1) := by decide +kernel
theorem dX10_ownValue_11 : decode cX10_ownValue 11 = .ok (.getfield 19, 3) := by decide +kernel
theorem dX10_ownValue_14 : decode cX10_ownValue 14 = .ok (.getfield 129, 3) := by decide +kernel
theorem dX10_ownValue_17 : decode cX10_ownValue 17 = .ok (.invokevirtual 132, 3) := by decide +kernel
theorem dX10_ownValue_20 : decode cX10_ownValue 20 = .ok (.invokevirtual 120, 3) := by decide +kernel
theorem dX10_ownValue_23 : decode cX10_ownValue 23 = .ok (.ireturn, 1) := by decide +kernel
theorem dX10_envyOf_0 : decode cX10_envyOf 0 = .ok (.aload_n 0, 1) := by decide +kernel
theorem dX10_envyOf_1 : decode cX10_envyOf 1 = .ok (.getfield 19, 3) := by decide +kernel
theorem dX10_envyOf_4 : decode cX10_envyOf 4 = .ok (.iload_n 1, 1) := by decide +kernel
theorem dX10_envyOf_5 : decode cX10_envyOf 5 = .ok (.aload_n 0, 1) := by decide +kernel
theorem dX10_envyOf_6 : decode cX10_envyOf 6 = .ok (.getfield 29, 3) := by decide +kernel
theorem dX10_envyOf_9 : decode cX10_envyOf 9 = .ok (.iconst 1, 1) := by decide +kernel
theorem dX10_envyOf_10 : decode cX10_envyOf 10 = .ok (.iload_n 1, 1) := by decide +kernel
theorem dX10_envyOf_11 : decode cX10_envyOf 11 = .ok (.isub, 1) := by decide +kernel
theorem dX10_envyOf_12 : decode cX10_envyOf 12 = .ok (.aload_n 0, 1) := by decide +kernel
theorem dX10_envyOf_13 : decode cX10_envyOf 13 = .ok (.getfield 19, 3) := by decide +kernel
theorem dX10_envyOf_16 : decode cX10_envyOf 16 = .ok (.getfield 129, 3) := by decide +kernel
theorem dX10_envyOf_19 : decode cX10_envyOf 19 = .ok (.invokevirtual 132, 3) := by decide +kernel
theorem dX10_envyOf_22 : decode cX10_envyOf 22 = .ok (.invokevirtual 120, 3) := by decide +kernel
theorem dX10_envyOf_25 : decode cX10_envyOf 25 = .ok (.istore_n 2, 1) := by decide +kernel
theorem dX10_envyOf_26 : decode cX10_envyOf 26 = .ok (.iconst 0, 1) := by decide +kernel
theorem dX10_envyOf_27 : decode cX10_envyOf 27 = .ok (.iload_n 2, 1) := by decide +kernel
theorem dX10_envyOf_28 : decode cX10_envyOf 28 = .ok (.aload_n 0, 1) := by decide +kernel
theorem dX10_envyOf_29 : decode cX10_envyOf 29 = .ok (.iload_n 1, 1) := by decide +kernel
theorem dX10_envyOf_30 : decode cX10_envyOf 30 = .ok (.invokevirtual 277, 3) := by decide +kernel
theorem dX10_envyOf_33 : decode cX10_envyOf 33 = .ok (.isub, 1) := by decide +kernel
theorem dX10_envyOf_34 : decode cX10_envyOf 34 = .ok (.invokestatic 280, 3) := by decide +kernel
theorem dX10_envyOf_37 : decode cX10_envyOf 37 = .ok (.ireturn, 1) := by decide +kernel
theorem dX10_agrees_0 : decode cX10_agrees 0 = .ok (.iconst 0, 1) := by decide +kernel
theorem dX10_agrees_1 : decode cX10_agrees 1 = .ok (.istore_n 3, 1) := by decide +kernel
theorem dX10_agrees_2 : decode cX10_agrees 2 = .ok (.iload_n 3, 1) := by decide +kernel
theorem dX10_agrees_3 : decode cX10_agrees 3 = .ok (.aload_n 0, 1) := by decide +kernel
theorem dX10_agrees_4 : decode cX10_agrees 4 = .ok (.getfield 231, 3) := by decide +kernel
theorem dX10_agrees_7 : decode cX10_agrees 7 = .ok (.if_icmp .ge 58, 3) := by decide +kernel
theorem dX10_agrees_10 : decode cX10_agrees 10 = .ok (.iload_n 3, 1) := by decide +kernel
theorem dX10_agrees_11 : decode cX10_agrees 11 = .ok (.bipush 6, 2) := by decide +kernel
theorem dX10_agrees_13 : decode cX10_agrees 13 = .ok (.if_icmp .ge 52, 3) := by decide +kernel
theorem dX10_agrees_16 : decode cX10_agrees 16 = .ok (.aload_n 0, 1) := by decide +kernel
theorem dX10_agrees_17 : decode cX10_agrees 17 = .ok (.getfield 56, 3) := by decide +kernel
theorem dX10_agrees_20 : decode cX10_agrees 20 = .ok (.iload_n 3, 1) := by decide +kernel
theorem dX10_agrees_21 : decode cX10_agrees 21 = .ok (.iaload, 1) := by decide +kernel
theorem dX10_agrees_22 : decode cX10_agrees 22 = .ok (.iconst 1, 1) := by decide +kernel
theorem dX10_agrees_23 : decode cX10_agrees 23 = .ok (.if_icmp .ne 7, 3) := by decide +kernel
theorem dX10_agrees_26 : decode cX10_agrees 26 = .ok (.iload_n 2, 1) := by decide +kernel
theorem dX10_agrees_27 : decode cX10_agrees 27 = .ok (.goto 4, 3) := by decide +kernel
theorem dX10_agrees_30 : decode cX10_agrees 30 = .ok (.iload_n 1, 1) := by decide +kernel
theorem dX10_agrees_31 : decode cX10_agrees 31 = .ok (.istore 4, 2) := by decide +kernel
theorem dX10_agrees_33 : decode cX10_agrees 33 = .ok (.aload_n 0, 1) := by decide +kernel
theorem dX10_agrees_34 : decode cX10_agrees 34 = .ok (.getfield 19, 3) := by decide +kernel
theorem dX10_agrees_37 : decode cX10_agrees 37 = .ok (.iload 4, 2) := by decide +kernel
theorem dX10_agrees_39 : decode cX10_agrees 39 = .ok (.aload_n 0, 1) := by decide +kernel
theorem dX10_agrees_40 : decode cX10_agrees 40 = .ok (.getfield 59, 3) := by decide +kernel
theorem dX10_agrees_43 : decode cX10_agrees 43 = .ok (.iload_n 3, 1) := by decide +kernel
theorem dX10_agrees_44 : decode cX10_agrees 44 = .ok (.iaload, 1) := by decide +kernel
theorem dX10_agrees_45 : decode cX10_agrees 45 = .ok (.invokevirtual 152, 3) := by decide +kernel
theorem dX10_agrees_48 : decode cX10_agrees 48 = .ok (.aload_n 0, 1) := by decide +kernel
theorem dX10_agrees_49 : decode cX10_agrees 49 = .ok (.getfield 62, 3) := by decide +kernel
theorem dX10_agrees_52 : decode cX10_agrees 52 = .ok (.iload_n 3, 1) := by decide +kernel
theorem dX10_agrees_53 : decode cX10_agrees 53 = .ok (.iaload, 1) := by decide +kernel
theorem dX10_agrees_54 : decode cX10_agrees 54 = .ok (.if_icmp .eq 5, 3) := by decide +kernel
theorem dX10_agrees_57 : decode cX10_agrees 57 = .ok (.iconst 0, 1) := by decide +kernel
theorem dX10_agrees_58 : decode cX10_agrees 58 = .ok (.ireturn, 1) := by decide +kernel
theorem dX10_agrees_59 : decode cX10_agrees 59 = .ok (.iinc 3 1, 3) := by decide +kernel
theorem dX10_agrees_62 : decode cX10_agrees 62 = .ok (.goto (-60), 3) := by decide +kernel
theorem dX10_agrees_65 : decode cX10_agrees 65 = .ok (.iconst 1, 1) := by decide +kernel
theorem dX10_agrees_66 : decode cX10_agrees 66 = .ok (.ireturn, 1) := by decide +kernel
theorem dX10_canBeWalked_0 : decode cX10_canBeWalked 0 = .ok (.aload_n 0, 1) := by decide +kernel
theorem dX10_canBeWalked_1 : decode cX10_canBeWalked 1 = .ok (.getfield 19, 3) := by decide +kernel
theorem dX10_canBeWalked_4 : decode cX10_canBeWalked 4 = .ok (.getfield 219, 3) := by decide +kernel
theorem dX10_canBeWalked_7 : decode cX10_canBeWalked 7 = .ok (.iconst 1, 1) := by decide +kernel
theorem dX10_canBeWalked_8 : decode cX10_canBeWalked 8 = .ok (.iadd, 1) := by decide +kernel
theorem dX10_canBeWalked_9 : decode cX10_canBeWalked 9 = .ok (.istore_n 3, 1) := by decide +kernel
theorem dX10_canBeWalked_10 : decode cX10_canBeWalked 10 = .ok (.iload_n 1, 1) := by decide +kernel
theorem dX10_canBeWalked_11 : decode cX10_canBeWalked 11 = .ok (.iload_n 2, 1) := by decide +kernel
theorem dX10_canBeWalked_12 : decode cX10_canBeWalked 12 = .ok (.iconst 1, 1) := by decide +kernel
theorem dX10_canBeWalked_13 : decode cX10_canBeWalked 13 = .ok (.iadd, 1) := by decide +kernel
theorem dX10_canBeWalked_14 : decode cX10_canBeWalked 14 = .ok (.iload_n 3, 1) := by decide +kernel
theorem dX10_canBeWalked_15 : decode cX10_canBeWalked 15 = .ok (.imul, 1) := by decide +kernel
theorem dX10_canBeWalked_16 : decode cX10_canBeWalked 16 = .ok (.if_icmp .gt 16, 3) := by decide +kernel
theorem dX10_canBeWalked_19 : decode cX10_canBeWalked 19 = .ok (.iload_n 2, 1) := by decide +kernel
theorem dX10_canBeWalked_20 : decode cX10_canBeWalked 20 = .ok (.iload_n 1, 1) := by decide +kernel
theorem dX10_canBeWalked_21 : decode cX10_canBeWalked 21 = .ok (.iconst 1, 1) := by decide +kernel
theorem dX10_canBeWalked_22 : decode cX10_canBeWalked 22 = .ok (.iadd, 1) := by decide +kernel
theorem dX10_canBeWalked_23 : decode cX10_canBeWalked 23 = .ok (.iload_n 3, 1) := by decide +kernel
theorem dX10_canBeWalked_24 : decode cX10_canBeWalked 24 = .ok (.imul, 1) := by decide +kernel
theorem dX10_canBeWalked_25 : decode cX10_canBeWalked 25 = .ok (.if_icmp .gt 7, 3) := by decide +kernel
theorem dX10_canBeWalked_28 : decode cX10_canBeWalked 28 = .ok (.iconst 1, 1) := by decide +kernel
theorem dX10_canBeWalked_29 : decode cX10_canBeWalked 29 = .ok (.goto 4, 3) := by decide +kernel
theorem dX10_canBeWalked_32 : decode cX10_canBeWalked 32 = .ok (.iconst 0, 1) := by decide +kernel
theorem dX10_canBeWalked_33 : decode cX10_canBeWalked 33 = .ok (.ireturn, 1) := by decide +kernel
theorem dX10_power_0 : decode cX10_power 0 = .ok (.iconst 1, 1) := by decide +kernel
theorem dX10_power_1 : decode cX10_power 1 = .ok (.istore_n 2, 1) := by decide +kernel
theorem dX10_power_2 : decode cX10_power 2 = .ok (.iconst 0, 1) := by decide +kernel
theorem dX10_power_3 : decode cX10_power 3 = .ok (.istore_n 3, 1) := by decide +kernel
theorem dX10_power_4 : decode cX10_power 4 = .ok (.iload_n 3, 1) := by decide +kernel
theorem dX10_power_5 : decode cX10_power 5 = .ok (.iload_n 1, 1) := by decide +kernel
theorem dX10_power_6 : decode cX10_power 6 = .ok (.if_icmp .ge 19, 3) := by decide +kernel
theorem dX10_power_9 : decode cX10_power 9 = .ok (.iload_n 3, 1) := by decide +kernel
theorem dX10_power_10 : decode cX10_power 10 = .ok (.bipush 6, 2) := by decide +kernel
theorem dX10_power_12 : decode cX10_power 12 = .ok (.if_icmp .ge 13, 3) := by decide +kernel
theorem dX10_power_15 : decode cX10_power 15 = .ok (.iload_n 2, 1) := by decide +kernel
theorem dX10_power_16 : decode cX10_power 16 = .ok (.iload_n 0, 1) := by decide +kernel
theorem dX10_power_17 : decode cX10_power 17 = .ok (.imul, 1) := by decide +kernel
theorem dX10_power_18 : decode cX10_power 18 = .ok (.istore_n 2, 1) := by decide +kernel
theorem dX10_power_19 : decode cX10_power 19 = .ok (.iinc 3 1, 3) := by decide +kernel
theorem dX10_power_22 : decode cX10_power 22 = .ok (.goto (-18), 3) := by decide +kernel
theorem dX10_power_25 : decode cX10_power 25 = .ok (.iload_n 2, 1) := by decide +kernel
theorem dX10_power_26 : decode cX10_power 26 = .ok (.ireturn, 1) := by decide +kernel
theorem dX10_greatestDivisor_0 : decode cX10_greatestDivisor 0 = .ok (.iload_n 0, 1) := by decide +kernel
theorem dX10_greatestDivisor_1 : decode cX10_greatestDivisor 1 = .ok (.istore_n 2, 1) := by decide +kernel
theorem dX10_greatestDivisor_2 : decode cX10_greatestDivisor 2 = .ok (.iload_n 1, 1) := by decide +kernel
theorem dX10_greatestDivisor_3 : decode cX10_greatestDivisor 3 = .ok (.istore_n 3, 1) := by decide +kernel
theorem dX10_greatestDivisor_4 : decode cX10_greatestDivisor 4 = .ok (.iconst 0, 1) := by decide +kernel
theorem dX10_greatestDivisor_5 : decode cX10_greatestDivisor 5 = .ok (.istore 4, 2) := by decide +kernel
theorem dX10_greatestDivisor_7 : decode cX10_greatestDivisor 7 = .ok (.iload 4, 2) := by decide +kernel
theorem dX10_greatestDivisor_9 : decode cX10_greatestDivisor 9 = .ok (.ldc_w 285, 3) := by decide +kernel
theorem dX10_greatestDivisor_12 : decode cX10_greatestDivisor 12 = .ok (.if_icmp .ge 23, 3) := by decide +kernel
theorem dX10_greatestDivisor_15 : decode cX10_greatestDivisor 15 = .ok (.iload_n 3, 1) := by decide +kernel
theorem dX10_greatestDivisor_16 : decode cX10_greatestDivisor 16 = .ok (.ifCond .le 19, 3) := by decide +kernel
theorem dX10_greatestDivisor_19 : decode cX10_greatestDivisor 19 = .ok (.iload_n 2, 1) := by decide +kernel
theorem dX10_greatestDivisor_20 : decode cX10_greatestDivisor 20 = .ok (.iload_n 3, 1) := by decide +kernel
theorem dX10_greatestDivisor_21 : decode cX10_greatestDivisor 21 = .ok (.irem, 1) := by decide +kernel
theorem dX10_greatestDivisor_22 : decode cX10_greatestDivisor 22 = .ok (.istore 5, 2) := by decide +kernel
theorem dX10_greatestDivisor_24 : decode cX10_greatestDivisor 24 = .ok (.iload_n 3, 1) := by decide +kernel
theorem dX10_greatestDivisor_25 : decode cX10_greatestDivisor 25 = .ok (.istore_n 2, 1) := by decide +kernel
theorem dX10_greatestDivisor_26 : decode cX10_greatestDivisor 26 = .ok (.iload 5, 2) := by decide +kernel
theorem dX10_greatestDivisor_28 : decode cX10_greatestDivisor 28 = .ok (.istore_n 3, 1) := by decide +kernel
theorem dX10_greatestDivisor_29 : decode cX10_greatestDivisor 29 = .ok (.iinc 4 1, 3) := by decide +kernel
theorem dX10_greatestDivisor_32 : decode cX10_greatestDivisor 32 = .ok (.goto (-25), 3) := by decide +kernel
theorem dX10_greatestDivisor_35 : decode cX10_greatestDivisor 35 = .ok (.iload_n 2, 1) := by decide +kernel
theorem dX10_greatestDivisor_36 : decode cX10_greatestDivisor 36 = .ok (.ireturn, 1) := by decide +kernel
theorem dX11_init_0 : decode cX11_init 0 = .ok (.aload_n 0, 1) := by decide +kernel
theorem dX11_init_1 : decode cX11_init 1 = .ok (.invokespecial 1, 3) := by decide +kernel
theorem dX11_init_4 : decode cX11_init 4 = .ok (.aload_n 0, 1) := by decide +kernel
theorem dX11_init_5 : decode cX11_init 5 = .ok (.bipush 32, 2) := by decide +kernel
theorem dX11_init_7 : decode cX11_init 7 = .ok (.newarray .int, 2) := by decide +kernel
theorem dX11_init_9 : decode cX11_init 9 = .ok (.putfield 7, 3) := by decide +kernel
theorem dX11_init_12 : decode cX11_init 12 = .ok (.aload_n 0, 1) := by decide +kernel
theorem dX11_init_13 : decode cX11_init 13 = .ok (.bipush 32, 2) := by decide +kernel
theorem dX11_init_15 : decode cX11_init 15 = .ok (.newarray .int, 2) := by decide +kernel
theorem dX11_init_17 : decode cX11_init 17 = .ok (.putfield 13, 3) := by decide +kernel
theorem dX11_init_20 : decode cX11_init 20 = .ok (.aload_n 0, 1) := by decide +kernel
theorem dX11_init_21 : decode cX11_init 21 = .ok (.bipush 9, 2) := by decide +kernel
theorem dX11_init_23 : decode cX11_init 23 = .ok (.newarray .int, 2) := by decide +kernel
theorem dX11_init_25 : decode cX11_init 25 = .ok (.putfield 16, 3) := by decide +kernel
theorem dX11_init_28 : decode cX11_init 28 = .ok (.aload_n 0, 1) := by decide +kernel
theorem dX11_init_29 : decode cX11_init 29 = .ok (.bipush 90, 2) := by decide +kernel
theorem dX11_init_31 : decode cX11_init 31 = .ok (.newarray .int, 2) := by decide +kernel
theorem dX11_init_33 : decode cX11_init 33 = .ok (.putfield 19, 3) := by decide +kernel
theorem dX11_init_36 : decode cX11_init 36 = .ok (.aload_n 0, 1) := by decide +kernel
theorem dX11_init_37 : decode cX11_init 37 = .ok (.bipush 18, 2) := by decide +kernel
theorem dX11_init_39 : decode cX11_init 39 = .ok (.newarray .int, 2) := by decide +kernel
theorem dX11_init_41 : decode cX11_init 41 = .ok (.putfield 22, 3) := by decide +kernel
theorem dX11_init_44 : decode cX11_init 44 = .ok (.aload_n 0, 1) := by decide +kernel
theorem dX11_init_45 : decode cX11_init 45 = .ok (.iconst 2, 1) := by decide +kernel
theorem dX11_init_46 : decode cX11_init 46 = .ok (.newarray .boolean, 2) := by decide +kernel
theorem dX11_init_48 : decode cX11_init 48 = .ok (.putfield 25, 3) := by decide +kernel
theorem dX11_init_51 : decode cX11_init 51 = .ok (.aload_n 0, 1) := by decide +kernel
theorem dX11_init_52 : decode cX11_init 52 = .ok (.sipush 200, 3) := by decide +kernel
theorem dX11_init_55 : decode cX11_init 55 = .ok (.newarray .int, 2) := by decide +kernel
theorem dX11_init_57 : decode cX11_init 57 = .ok (.putfield 29, 3) := by decide +kernel
theorem dX11_init_60 : decode cX11_init 60 = .ok (.aload_n 0, 1) := by decide +kernel
theorem dX11_init_61 : decode cX11_init 61 = .ok (.bipush 18, 2) := by decide +kernel
theorem dX11_init_63 : decode cX11_init 63 = .ok (.newarray .int, 2) := by decide +kernel
theorem dX11_init_65 : decode cX11_init 65 = .ok (.putfield 32, 3) := by decide +kernel
theorem dX11_init_68 : decode cX11_init 68 = .ok (.aload_n 0, 1) := by decide +kernel
theorem dX11_init_69 : decode cX11_init 69 = .ok (.sipush 4096, 3) := by decide +kernel
theorem dX11_init_72 : decode cX11_init 72 = .ok (.newarray .int, 2) := by decide +kernel
theorem dX11_init_74 : decode cX11_init 74 = .ok (.putfield 35, 3) := by decide +kernel
theorem dX11_init_77 : decode cX11_init 77 = .ok (.aload_n 0, 1) := by decide +kernel
theorem dX11_init_78 : decode cX11_init 78 = .ok (.sipush 4096, 3) := by decide +kernel
theorem dX11_init_81 : decode cX11_init 81 = .ok (.newarray .int, 2) := by decide +kernel
theorem dX11_init_83 : decode cX11_init 83 = .ok (.putfield 38, 3) := by decide +kernel
theorem dX11_init_86 : decode cX11_init 86 = .ok (.aload_n 0, 1) := by decide +kernel
theorem dX11_init_87 : decode cX11_init 87 = .ok (.sipush 4096, 3) := by decide +kernel
theorem dX11_init_90 : decode cX11_init 90 = .ok (.newarray .int, 2) := by decide +kernel
theorem dX11_init_92 : decode cX11_init 92 = .ok (.putfield 41, 3) := by decide +kernel
theorem dX11_init_95 : decode cX11_init 95 = .ok (.aload_n 0, 1) := by decide +kernel
theorem dX11_init_96 : decode cX11_init 96 = .ok (.sipush 1000, 3) := by decide +kernel
theorem dX11_init_99 : decode cX11_init 99 = .ok (.newarray .boolean, 2) := by decide +kernel
theorem dX11_init_101 : decode cX11_init 101 = .ok (.putfield 44, 3) := by decide +kernel
theorem dX11_init_104 : decode cX11_init 104 = .ok (.aload_n 0, 1) := by decide +kernel
theorem dX11_init_105 : decode cX11_init 105 = .ok (.sipush 1000, 3) := by decide +kernel
theorem dX11_init_108 : decode cX11_init 108 = .ok (.newarray .boolean, 2) := by decide +kernel
theorem dX11_init_110 : decode cX11_init 110 = .ok (.putfield 47, 3) := by decide +kernel
theorem dX11_init_113 : decode cX11_init 113 = .ok (.aload_n 0, 1) := by decide +kernel
theorem dX11_init_114 : decode cX11_init 114 = .ok (.getfield 7, 3) := by decide +kernel
theorem dX11_init_117 : decode cX11_init 117 = .ok (.invokestatic 50, 3) := by decide +kernel
theorem dX11_init_120 : decode cX11_init 120 = .ok (.aload_n 0, 1) := by decide +kernel
theorem dX11_init_121 : decode cX11_init 121 = .ok (.invokevirtual 54, 3) := by decide +kernel
theorem dX11_init_124 : decode cX11_init 124 = .ok (.return_, 1) := by decide +kernel
theorem dX11_in_0 : decode cX11_in 0 = .ok (.lload_n 0, 1) := by decide +kernel
theorem dX11_in_1 : decode cX11_in 1 = .ok (.lload_n 2, 1) := by decide +kernel
theorem dX11_in_2 : decode cX11_in 2 = .ok (.lcmp, 1) := by decide +kernel
theorem dX11_in_3 : decode cX11_in 3 = .ok (.ifCond .lt 14, 3) := by decide +kernel
theorem dX11_in_6 : decode cX11_in 6 = .ok (.lload_n 0, 1) := by decide +kernel
theorem dX11_in_7 : decode cX11_in 7 = .ok (.lload 4, 2) := by decide +kernel
theorem dX11_in_9 : decode cX11_in 9 = .ok (.lcmp, 1) := by decide +kernel
theorem dX11_in_10 : decode cX11_in 10 = .ok (.ifCond .gt 7, 3) := by decide +kernel
theorem dX11_in_13 : decode cX11_in 13 = .ok (.iconst 1, 1) := by decide +kernel
theorem dX11_in_14 : decode cX11_in 14 = .ok (.goto 4, 3) := by decide +kernel
theorem dX11_in_17 : decode cX11_in 17 = .ok (.iconst 0, 1) := by decide +kernel
theorem dX11_in_18 : decode cX11_in 18 = .ok (.ireturn, 1) := by decide +kernel
theorem dX11_isTwo_0 : decode cX11_isTwo 0 = .ok (.iload_n 0, 1) := by decide +kernel
theorem dX11_isTwo_1 : decode cX11_isTwo 1 = .ok (.i2l, 1) := by decide +kernel
theorem dX11_isTwo_2 : decode cX11_isTwo 2 = .ok (.lconst 0, 1) := by decide +kernel
theorem dX11_isTwo_3 : decode cX11_isTwo 3 = .ok (.lconst 1, 1) := by decide +kernel
theorem dX11_isTwo_4 : decode cX11_isTwo 4 = .ok (.invokestatic 57, 3) := by decide +kernel
theorem dX11_isTwo_7 : decode cX11_isTwo 7 = .ok (.ireturn, 1) := by decide +kernel
theorem dX11_has_0 : decode cX11_has 0 = .ok (.iload_n 0, 1) := by decide +kernel
theorem dX11_has_1 : decode cX11_has 1 = .ok (.iload_n 1, 1) := by decide +kernel
theorem dX11_has_2 : decode cX11_has 2 = .ok (.ishr, 1) := by decide +kernel
theorem dX11_has_3 : decode cX11_has 3 = .ok (.iconst 1, 1) := by decide +kernel
theorem dX11_has_4 : decode cX11_has 4 = .ok (.iand, 1) := by decide +kernel
theorem dX11_has_5 : decode cX11_has 5 = .ok (.iconst 1, 1) := by decide +kernel
theorem dX11_has_6 : decode cX11_has 6 = .ok (.if_icmp .ne 7, 3) := by decide +kernel
theorem dX11_has_9 : decode cX11_has 9 = .ok (.iconst 1, 1) := by decide +kernel
theorem dX11_has_10 : decode cX11_has 10 = .ok (.goto 4, 3) := by decide +kernel
theorem dX11_has_13 : decode cX11_has 13 = .ok (.iconst 0, 1) := by decide +kernel
theorem dX11_has_14 : decode cX11_has 14 = .ok (.ireturn, 1) := by decide +kernel
theorem dX11_bits_0 : decode cX11_bits 0 = .ok (.iconst 0, 1) := by decide +kernel
theorem dX11_bits_1 : decode cX11_bits 1 = .ok (.istore_n 1, 1) := by decide +kernel
theorem dX11_bits_2 : decode cX11_bits 2 = .ok (.iload_n 0, 1) := by decide +kernel
theorem dX11_bits_3 : decode cX11_bits 3 = .ok (.istore_n 2, 1) := by decide +kernel
theorem dX11_bits_4 : decode cX11_bits 4 = .ok (.iload_n 2, 1) := by decide +kernel
theorem dX11_bits_5 : decode cX11_bits 5 = .ok (.ifCond .eq 15, 3) := by decide +kernel
theorem dX11_bits_8 : decode cX11_bits 8 = .ok (.iinc 1 1, 3) := by decide +kernel
theorem dX11_bits_11 : decode cX11_bits 11 = .ok (.iload_n 2, 1) := by decide +kernel
theorem dX11_bits_12 : decode cX11_bits 12 = .ok (.iload_n 2, 1) := by decide +kernel
theorem dX11_bits_13 : decode cX11_bits 13 = .ok (.iconst 1, 1) := by decide +kernel
theorem dX11_bits_14 : decode cX11_bits 14 = .ok (.isub, 1) := by decide +kernel
theorem dX11_bits_15 : decode cX11_bits 15 = .ok (.iand, 1) := by decide +kernel
theorem dX11_bits_16 : decode cX11_bits 16 = .ok (.istore_n 2, 1) := by decide +kernel
theorem dX11_bits_17 : decode cX11_bits 17 = .ok (.goto (-13), 3) := by decide +kernel
theorem dX11_bits_20 : decode cX11_bits 20 = .ok (.iload_n 1, 1) := by decide +kernel
theorem dX11_bits_21 : decode cX11_bits 21 = .ok (.ireturn, 1) := by decide +kernel
theorem dX11_clean_0 : decode cX11_clean 0 = .ok (.iconst 0, 1) := by decide +kernel
theorem dX11_clean_1 : decode cX11_clean 1 = .ok (.istore_n 1, 1) := by decide +kernel
theorem dX11_clean_2 : decode cX11_clean 2 = .ok (.iload_n 1, 1) := by decide +kernel
theorem dX11_clean_3 : decode cX11_clean 3 = .ok (.bipush 32, 2) := by decide +kernel
theorem dX11_clean_5 : decode cX11_clean 5 = .ok (.if_icmp .ge 13, 3) := by decide +kernel
theorem dX11_clean_8 : decode cX11_clean 8 = .ok (.aload_n 0, 1) := by decide +kernel
theorem dX11_clean_9 : decode cX11_clean 9 = .ok (.iload_n 1, 1) := by decide +kernel
theorem dX11_clean_10 : decode cX11_clean 10 = .ok (.iconst 0, 1) := by decide +kernel
theorem dX11_clean_11 : decode cX11_clean 11 = .ok (.iastore, 1) := by decide +kernel
theorem dX11_clean_12 : decode cX11_clean 12 = .ok (.iinc 1 1, 3) := by decide +kernel
theorem dX11_clean_15 : decode cX11_clean 15 = .ok (.goto (-13), 3) := by decide +kernel
theorem dX11_clean_18 : decode cX11_clean 18 = .ok (.aload_n 0, 1) := by decide +kernel
theorem dX11_clean_19 : decode cX11_clean 19 = .ok (.iconst 2, 1) := by decide +kernel
theorem dX11_clean_20 : decode cX11_clean 20 = .ok (.iconst 1, 1) := by decide +kernel
theorem dX11_clean_21 : decode cX11_clean 21 = .ok (.iastore, 1) := by decide +kernel
theorem dX11_clean_22 : decode cX11_clean 22 = .ok (.aload_n 0, 1) := by decide +kernel
theorem dX11_clean_23 : decode cX11_clean 23 = .ok (.iconst 3, 1) := by decide +kernel
theorem dX11_clean_24 : decode cX11_clean 24 = .ok (.bipush 6, 2) := by decide +kernel
theorem dX11_clean_26 : decode cX11_clean 26 = .ok (.iastore, 1) := by decide +kernel
theorem dX11_clean_27 : decode cX11_clean 27 = .ok (.return_, 1) := by decide +kernel
theorem dX11_begins_0 : decode cX11_begins 0 = .ok (.iconst 0, 1) := by decide +kernel
theorem dX11_begins_1 : decode cX11_begins 1 = .ok (.istore_n 1, 1) := by decide +kernel
theorem dX11_begins_2 : decode cX11_begins 2 = .ok (.iload_n 1, 1) := by decide +kernel
theorem dX11_begins_3 : decode cX11_begins 3 = .ok (.bipush 9, 2) := by decide +kernel
theorem dX11_begins_5 : decode cX11_begins 5 = .ok (.if_icmp .ge 26, 3) := by decide +kernel
theorem dX11_begins_8 : decode cX11_begins 8 = .ok (.aload_n 0, 1) := by decide +kernel
theorem dX11_begins_9 : decode cX11_begins 9 = .ok (.getfield 16, 3) := by decide +kernel
theorem dX11_begins_12 : decode cX11_begins 12 = .ok (.iload_n 1, 1) := by decide +kernel
theorem dX11_begins_13 : decode cX11_begins 13 = .ok (.iload_n 1, 1) := by decide +kernel
theorem dX11_begins_14 : decode cX11_begins 14 = .ok (.bipush 6, 2) := by decide +kernel
theorem dX11_begins_16 : decode cX11_begins 16 = .ok (.if_icmp .ge 7, 3) := by decide +kernel
theorem dX11_begins_19 : decode cX11_begins 19 = .ok (.iconst 2, 1) := by decide +kernel
theorem dX11_begins_20 : decode cX11_begins 20 = .ok (.goto 4, 3) := by decide +kernel
theorem dX11_begins_23 : decode cX11_begins 23 = .ok (.iconst 0, 1) := by decide +kernel
theorem dX11_begins_24 : decode cX11_begins 24 = .ok (.iastore, 1) := by decide +kernel
theorem dX11_begins_25 : decode cX11_begins 25 = .ok (.iinc 1 1, 3) := by decide +kernel
theorem dX11_begins_28 : decode cX11_begins 28 = .ok (.goto (-26), 3) := by decide +kernel
theorem dX11_begins_31 : decode cX11_begins 31 = .ok (.aload_n 0, 1) := by decide +kernel
theorem dX11_begins_32 : decode cX11_begins 32 = .ok (.iconst 0, 1) := by decide +kernel
theorem dX11_begins_33 : decode cX11_begins 33 = .ok (.putfield 61, 3) := by decide +kernel
theorem dX11_begins_36 : decode cX11_begins 36 = .ok (.aload_n 0, 1) := by decide +kernel
theorem dX11_begins_37 : decode cX11_begins 37 = .ok (.iconst 0, 1) := by decide +kernel
theorem dX11_begins_38 : decode cX11_begins 38 = .ok (.putfield 65, 3) := by decide +kernel
theorem dX11_begins_41 : decode cX11_begins 41 = .ok (.aload_n 0, 1) := by decide +kernel
theorem dX11_begins_42 : decode cX11_begins 42 = .ok (.getfield 25, 3) := by decide +kernel
theorem dX11_begins_45 : decode cX11_begins 45 = .ok (.iconst 0, 1) := by decide +kernel
theorem dX11_begins_46 : decode cX11_begins 46 = .ok (.iconst 0, 1) := by decide +kernel
theorem dX11_begins_47 : decode cX11_begins 47 = .ok (.bastore, 1) := by decide +kernel
theorem dX11_begins_48 : decode cX11_begins 48 = .ok (.aload_n 0, 1) := by decide +kernel
theorem dX11_begins_49 : decode cX11_begins 49 = .ok (.getfield 25, 3) := by decide +kernel
theorem dX11_begins_52 : decode cX11_begins 52 = .ok (.iconst 1, 1) := by decide +kernel
theorem dX11_begins_53 : decode cX11_begins 53 = .ok (.iconst 0, 1) := by decide +kernel
theorem dX11_begins_54 : decode cX11_begins 54 = .ok (.bastore, 1) := by decide +kernel
theorem dX11_begins_55 : decode cX11_begins 55 = .ok (.return_, 1) := by decide +kernel
theorem dX11_type_0 : decode cX11_type 0 = .ok (.iload_n 1, 1) := by decide +kernel
theorem dX11_type_1 : decode cX11_type 1 = .ok (.i2l, 1) := by decide +kernel
theorem dX11_type_2 : decode cX11_type 2 = .ok (.lconst 0, 1) := by decide +kernel
theorem dX11_type_3 : decode cX11_type 3 = .ok (.ldc2_w 68, 3) := by decide +kernel
theorem dX11_type_6 : decode cX11_type 6 = .ok (.invokestatic 57, 3) := by decide +kernel
theorem dX11_type_9 : decode cX11_type 9 = .ok (.ifCond .ne 5, 3) := by decide +kernel
theorem dX11_type_12 : decode cX11_type 12 = .ok (.iconst (-1), 1) := by decide +kernel
theorem dX11_type_13 : decode cX11_type 13 = .ok (.ireturn, 1) := by decide +kernel
theorem dX11_type_14 : decode cX11_type 14 = .ok (.aload_n 0, 1) := by decide +kernel
theorem dX11_type_15 : decode cX11_type 15 = .ok (.getfield 70, 3) := by decide +kernel
theorem dX11_type_18 : decode cX11_type 18 = .ok (.sipush 200, 3) := by decide +kernel
theorem dX11_type_21 : decode cX11_type 21 = .ok (.if_icmp .ne 6, 3) := by decide +kernel
theorem dX11_type_24 : decode cX11_type 24 = .ok (.bipush (-3), 2) := by decide +kernel
theorem dX11_type_26 : decode cX11_type 26 = .ok (.ireturn, 1) := by decide +kernel
theorem dX11_type_27 : decode cX11_type 27 = .ok (.aload_n 0, 1) := by decide +kernel
theorem dX11_type_28 : decode cX11_type 28 = .ok (.getfield 29, 3) := by decide +kernel
theorem dX11_type_31 : decode cX11_type 31 = .ok (.aload_n 0, 1) := by decide +kernel
theorem dX11_type_32 : decode cX11_type 32 = .ok (.getfield 70, 3) := by decide +kernel
theorem dX11_type_35 : decode cX11_type 35 = .ok (.iload_n 1, 1) := by decide +kernel
theorem dX11_type_36 : decode cX11_type 36 = .ok (.iastore, 1) := by decide +kernel
theorem dX11_type_37 : decode cX11_type 37 = .ok (.aload_n 0, 1) := by decide +kernel
theorem dX11_type_38 : decode cX11_type 38 = .ok (.dup, 1) := by decide +kernel
theorem dX11_type_39 : decode cX11_type 39 = .ok (.getfield 70, 3) := by decide +kernel
theorem dX11_type_42 : decode cX11_type 42 = .ok (.iconst 1, 1) := by decide +kernel
theorem dX11_type_43 : decode cX11_type 43 = .ok (.iadd, 1) := by decide +kernel
theorem dX11_type_44 : decode cX11_type 44 = .ok (.putfield 70, 3) := by decide +kernel
theorem dX11_type_47 : decode cX11_type 47 = .ok (.aload_n 0, 1) := by decide +kernel
theorem dX11_type_48 : decode cX11_type 48 = .ok (.getfield 70, 3) := by decide +kernel
theorem dX11_type_51 : decode cX11_type 51 = .ok (.ireturn, 1) := by decide +kernel
theorem dX11_clear_0 : decode cX11_clear 0 = .ok (.aload_n 0, 1) := by decide +kernel
theorem dX11_clear_1 : decode cX11_clear 1 = .ok (.getfield 70, 3) := by decide +kernel
theorem dX11_clear_4 : decode cX11_clear 4 = .ok (.istore_n 1, 1) := by decide +kernel
theorem dX11_clear_5 : decode cX11_clear 5 = .ok (.aload_n 0, 1) := by decide +kernel
theorem dX11_clear_6 : decode cX11_clear 6 = .ok (.iconst 0, 1) := by decide +kernel
theorem dX11_clear_7 : decode cX11_clear 7 = .ok (.putfield 70, 3) := by decide +kernel
theorem dX11_clear_10 : decode cX11_clear 10 = .ok (.iload_n 1, 1) := by decide +kernel
theorem dX11_clear_11 : decode cX11_clear 11 = .ok (.ireturn, 1) := by decide +kernel
