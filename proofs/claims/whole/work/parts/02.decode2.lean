theorem dX11_first_0 : decode cX11_first 0 = .ok (.aload_n 0, 1) := by decide +kernel
theorem dX11_first_1 : decode cX11_first 1 = .ok (.getfield 73, 3) := by decide +kernel
theorem dX11_first_4 : decode cX11_first 4 = .ok (.aload_n 0, 1) := by decide +kernel
theorem dX11_first_5 : decode cX11_first 5 = .ok (.getfield 70, 3) := by decide +kernel
theorem dX11_first_8 : decode cX11_first 8 = .ok (.if_icmp .ge 30, 3) := by decide +kernel
theorem dX11_first_11 : decode cX11_first 11 = .ok (.aload_n 0, 1) := by decide +kernel
theorem dX11_first_12 : decode cX11_first 12 = .ok (.getfield 29, 3) := by decide +kernel
theorem dX11_first_15 : decode cX11_first 15 = .ok (.aload_n 0, 1) := by decide +kernel
theorem dX11_first_16 : decode cX11_first 16 = .ok (.getfield 73, 3) := by decide +kernel
theorem dX11_first_19 : decode cX11_first 19 = .ok (.iaload, 1) := by decide +kernel
theorem dX11_first_20 : decode cX11_first 20 = .ok (.bipush 32, 2) := by decide +kernel
theorem dX11_first_22 : decode cX11_first 22 = .ok (.if_icmp .ne 16, 3) := by decide +kernel
theorem dX11_first_25 : decode cX11_first 25 = .ok (.aload_n 0, 1) := by decide +kernel
theorem dX11_first_26 : decode cX11_first 26 = .ok (.dup, 1) := by decide +kernel
theorem dX11_first_27 : decode cX11_first 27 = .ok (.getfield 73, 3) := by decide +kernel
theorem dX11_first_30 : decode cX11_first 30 = .ok (.iconst 1, 1) := by decide +kernel
theorem dX11_first_31 : decode cX11_first 31 = .ok (.iadd, 1) := by decide +kernel
theorem dX11_first_32 : decode cX11_first 32 = .ok (.putfield 73, 3) := by decide +kernel
theorem dX11_first_35 : decode cX11_first 35 = .ok (.goto (-35), 3) := by decide +kernel
theorem dX11_first_38 : decode cX11_first 38 = .ok (.aload_n 0, 1) := by decide +kernel
theorem dX11_first_39 : decode cX11_first 39 = .ok (.aload_n 0, 1) := by decide +kernel
theorem dX11_first_40 : decode cX11_first 40 = .ok (.getfield 73, 3) := by decide +kernel
theorem dX11_first_43 : decode cX11_first 43 = .ok (.putfield 76, 3) := by decide +kernel
theorem dX11_first_46 : decode cX11_first 46 = .ok (.aload_n 0, 1) := by decide +kernel
theorem dX11_first_47 : decode cX11_first 47 = .ok (.getfield 73, 3) := by decide +kernel
theorem dX11_first_50 : decode cX11_first 50 = .ok (.aload_n 0, 1) := by decide +kernel
theorem dX11_first_51 : decode cX11_first 51 = .ok (.getfield 70, 3) := by decide +kernel
theorem dX11_first_54 : decode cX11_first 54 = .ok (.if_icmp .ge 15, 3) := by decide +kernel
theorem dX11_first_57 : decode cX11_first 57 = .ok (.aload_n 0, 1) := by decide +kernel
theorem dX11_first_58 : decode cX11_first 58 = .ok (.getfield 29, 3) := by decide +kernel
theorem dX11_first_61 : decode cX11_first 61 = .ok (.aload_n 0, 1) := by decide +kernel
theorem dX11_first_62 : decode cX11_first 62 = .ok (.getfield 73, 3) := by decide +kernel
theorem dX11_first_65 : decode cX11_first 65 = .ok (.iaload, 1) := by decide +kernel
theorem dX11_first_66 : decode cX11_first 66 = .ok (.goto 4, 3) := by decide +kernel
theorem dX11_first_69 : decode cX11_first 69 = .ok (.iconst (-1), 1) := by decide +kernel
theorem dX11_first_70 : decode cX11_first 70 = .ok (.ireturn, 1) := by decide +kernel
theorem dX11_number_0 : decode cX11_number 0 = .ok (.aload_n 0, 1) := by decide +kernel
theorem dX11_number_1 : decode cX11_number 1 = .ok (.invokevirtual 79, 3) := by decide +kernel
theorem dX11_number_4 : decode cX11_number 4 = .ok (.istore 4, 2) := by decide +kernel
theorem dX11_number_6 : decode cX11_number 6 = .ok (.iload 4, 2) := by decide +kernel
theorem dX11_number_8 : decode cX11_number 8 = .ok (.i2l, 1) := by decide +kernel
theorem dX11_number_9 : decode cX11_number 9 = .ok (.ldc2_w 83, 3) := by decide +kernel
theorem dX11_number_12 : decode cX11_number 12 = .ok (.ldc2_w 85, 3) := by decide +kernel
theorem dX11_number_15 : decode cX11_number 15 = .ok (.invokestatic 57, 3) := by decide +kernel
theorem dX11_number_18 : decode cX11_number 18 = .ok (.ifCond .ne 5, 3) := by decide +kernel
theorem dX11_number_21 : decode cX11_number 21 = .ok (.iconst 0, 1) := by decide +kernel
theorem dX11_number_22 : decode cX11_number 22 = .ok (.ireturn, 1) := by decide +kernel
theorem dX11_number_23 : decode cX11_number 23 = .ok (.iconst 0, 1) := by decide +kernel
theorem dX11_number_24 : decode cX11_number 24 = .ok (.istore 5, 2) := by decide +kernel
theorem dX11_number_26 : decode cX11_number 26 = .ok (.aload_n 0, 1) := by decide +kernel
theorem dX11_number_27 : decode cX11_number 27 = .ok (.getfield 73, 3) := by decide +kernel
theorem dX11_number_30 : decode cX11_number 30 = .ok (.aload_n 0, 1) := by decide +kernel
theorem dX11_number_31 : decode cX11_number 31 = .ok (.getfield 70, 3) := by decide +kernel
theorem dX11_number_34 : decode cX11_number 34 = .ok (.if_icmp .ge 70, 3) := by decide +kernel
theorem dX11_number_37 : decode cX11_number 37 = .ok (.aload_n 0, 1) := by decide +kernel
theorem dX11_number_38 : decode cX11_number 38 = .ok (.getfield 29, 3) := by decide +kernel
theorem dX11_number_41 : decode cX11_number 41 = .ok (.aload_n 0, 1) := by decide +kernel
theorem dX11_number_42 : decode cX11_number 42 = .ok (.getfield 73, 3) := by decide +kernel
theorem dX11_number_45 : decode cX11_number 45 = .ok (.iaload, 1) := by decide +kernel
theorem dX11_number_46 : decode cX11_number 46 = .ok (.i2l, 1) := by decide +kernel
theorem dX11_number_47 : decode cX11_number 47 = .ok (.ldc2_w 83, 3) := by decide +kernel
theorem dX11_number_50 : decode cX11_number 50 = .ok (.ldc2_w 85, 3) := by decide +kernel
theorem dX11_number_53 : decode cX11_number 53 = .ok (.invokestatic 57, 3) := by decide +kernel
theorem dX11_number_56 : decode cX11_number 56 = .ok (.ifCond .eq 48, 3) := by decide +kernel
theorem dX11_number_59 : decode cX11_number 59 = .ok (.iload 5, 2) := by decide +kernel
theorem dX11_number_61 : decode cX11_number 61 = .ok (.bipush 99, 2) := by decide +kernel
theorem dX11_number_63 : decode cX11_number 63 = .ok (.if_icmp .le 8, 3) := by decide +kernel
theorem dX11_number_66 : decode cX11_number 66 = .ok (.iload 5, 2) := by decide +kernel
theorem dX11_number_68 : decode cX11_number 68 = .ok (.goto 21, 3) := by decide +kernel
theorem dX11_number_71 : decode cX11_number 71 = .ok (.bipush 10, 2) := by decide +kernel
theorem dX11_number_73 : decode cX11_number 73 = .ok (.iload 5, 2) := by decide +kernel
theorem dX11_number_75 : decode cX11_number 75 = .ok (.imul, 1) := by decide +kernel
theorem dX11_number_76 : decode cX11_number 76 = .ok (.aload_n 0, 1) := by decide +kernel
theorem dX11_number_77 : decode cX11_number 77 = .ok (.getfield 29, 3) := by decide +kernel
theorem dX11_number_80 : decode cX11_number 80 = .ok (.aload_n 0, 1) := by decide +kernel
theorem dX11_number_81 : decode cX11_number 81 = .ok (.getfield 73, 3) := by decide +kernel
theorem dX11_number_84 : decode cX11_number 84 = .ok (.iaload, 1) := by decide +kernel
theorem dX11_number_85 : decode cX11_number 85 = .ok (.iadd, 1) := by decide +kernel
theorem dX11_number_86 : decode cX11_number 86 = .ok (.bipush 48, 2) := by decide +kernel
theorem dX11_number_88 : decode cX11_number 88 = .ok (.isub, 1) := by decide +kernel
theorem dX11_number_89 : decode cX11_number 89 = .ok (.istore 5, 2) := by decide +kernel
theorem dX11_number_91 : decode cX11_number 91 = .ok (.aload_n 0, 1) := by decide +kernel
theorem dX11_number_92 : decode cX11_number 92 = .ok (.dup, 1) := by decide +kernel
theorem dX11_number_93 : decode cX11_number 93 = .ok (.getfield 73, 3) := by decide +kernel
theorem dX11_number_96 : decode cX11_number 96 = .ok (.iconst 1, 1) := by decide +kernel
theorem dX11_number_97 : decode cX11_number 97 = .ok (.iadd, 1) := by decide +kernel
theorem dX11_number_98 : decode cX11_number 98 = .ok (.putfield 73, 3) := by decide +kernel
theorem dX11_number_101 : decode cX11_number 101 = .ok (.goto (-75), 3) := by decide +kernel
theorem dX11_number_104 : decode cX11_number 104 = .ok (.iload 4, 2) := by decide +kernel
theorem dX11_number_106 : decode cX11_number 106 = .ok (.bipush 48, 2) := by decide +kernel
theorem dX11_number_108 : decode cX11_number 108 = .ok (.if_icmp .ne 16, 3) := by decide +kernel
theorem dX11_number_111 : decode cX11_number 111 = .ok (.aload_n 0, 1) := by decide +kernel
theorem dX11_number_112 : decode cX11_number 112 = .ok (.getfield 73, 3) := by decide +kernel
theorem dX11_number_115 : decode cX11_number 115 = .ok (.aload_n 0, 1) := by decide +kernel
theorem dX11_number_116 : decode cX11_number 116 = .ok (.getfield 76, 3) := by decide +kernel
theorem dX11_number_119 : decode cX11_number 119 = .ok (.isub, 1) := by decide +kernel
theorem dX11_number_120 : decode cX11_number 120 = .ok (.iconst 1, 1) := by decide +kernel
theorem dX11_number_121 : decode cX11_number 121 = .ok (.if_icmp .gt 16, 3) := by decide +kernel
theorem dX11_number_124 : decode cX11_number 124 = .ok (.iload 5, 2) := by decide +kernel
theorem dX11_number_126 : decode cX11_number 126 = .ok (.i2l, 1) := by decide +kernel
theorem dX11_number_127 : decode cX11_number 127 = .ok (.iload_n 2, 1) := by decide +kernel
theorem dX11_number_128 : decode cX11_number 128 = .ok (.i2l, 1) := by decide +kernel
theorem dX11_number_129 : decode cX11_number 129 = .ok (.iload_n 3, 1) := by decide +kernel
theorem dX11_number_130 : decode cX11_number 130 = .ok (.i2l, 1) := by decide +kernel
theorem dX11_number_131 : decode cX11_number 131 = .ok (.invokestatic 57, 3) := by decide +kernel
theorem dX11_number_134 : decode cX11_number 134 = .ok (.ifCond .ne 5, 3) := by decide +kernel
theorem dX11_number_137 : decode cX11_number 137 = .ok (.iconst 0, 1) := by decide +kernel
theorem dX11_number_138 : decode cX11_number 138 = .ok (.ireturn, 1) := by decide +kernel
theorem dX11_number_139 : decode cX11_number 139 = .ok (.aload_n 0, 1) := by decide +kernel
theorem dX11_number_140 : decode cX11_number 140 = .ok (.getfield 13, 3) := by decide +kernel
theorem dX11_number_143 : decode cX11_number 143 = .ok (.iload_n 1, 1) := by decide +kernel
theorem dX11_number_144 : decode cX11_number 144 = .ok (.iload 5, 2) := by decide +kernel
theorem dX11_number_146 : decode cX11_number 146 = .ok (.iastore, 1) := by decide +kernel
theorem dX11_number_147 : decode cX11_number 147 = .ok (.iconst 1, 1) := by decide +kernel
theorem dX11_number_148 : decode cX11_number 148 = .ok (.ireturn, 1) := by decide +kernel
theorem dX11_ends_0 : decode cX11_ends 0 = .ok (.aload_n 0, 1) := by decide +kernel
theorem dX11_ends_1 : decode cX11_ends 1 = .ok (.invokevirtual 79, 3) := by decide +kernel
theorem dX11_ends_4 : decode cX11_ends 4 = .ok (.bipush 59, 2) := by decide +kernel
theorem dX11_ends_6 : decode cX11_ends 6 = .ok (.if_icmp .eq 5, 3) := by decide +kernel
theorem dX11_ends_9 : decode cX11_ends 9 = .ok (.iconst 0, 1) := by decide +kernel
theorem dX11_ends_10 : decode cX11_ends 10 = .ok (.ireturn, 1) := by decide +kernel
theorem dX11_ends_11 : decode cX11_ends 11 = .ok (.aload_n 0, 1) := by decide +kernel
theorem dX11_ends_12 : decode cX11_ends 12 = .ok (.dup, 1) := by decide +kernel
theorem dX11_ends_13 : decode cX11_ends 13 = .ok (.getfield 73, 3) := by decide +kernel
theorem dX11_ends_16 : decode cX11_ends 16 = .ok (.iconst 1, 1) := by decide +kernel
theorem dX11_ends_17 : decode cX11_ends 17 = .ok (.iadd, 1) := by decide +kernel
theorem dX11_ends_18 : decode cX11_ends 18 = .ok (.putfield 73, 3) := by decide +kernel
theorem dX11_ends_21 : decode cX11_ends 21 = .ok (.iconst 1, 1) := by decide +kernel
theorem dX11_ends_22 : decode cX11_ends 22 = .ok (.ireturn, 1) := by decide +kernel
theorem dX11_takesGood_0 : decode cX11_takesGood 0 = .ok (.aload_n 0, 1) := by decide +kernel
theorem dX11_takesGood_1 : decode cX11_takesGood 1 = .ok (.getfield 13, 3) := by decide +kernel
theorem dX11_takesGood_4 : decode cX11_takesGood 4 = .ok (.iconst 0, 1) := by decide +kernel
theorem dX11_takesGood_5 : decode cX11_takesGood 5 = .ok (.iaload, 1) := by decide +kernel
theorem dX11_takesGood_6 : decode cX11_takesGood 6 = .ok (.istore_n 1, 1) := by decide +kernel
theorem dX11_takesGood_7 : decode cX11_takesGood 7 = .ok (.iload_n 1, 1) := by decide +kernel
theorem dX11_takesGood_8 : decode cX11_takesGood 8 = .ok (.bipush 6, 2) := by decide +kernel
theorem dX11_takesGood_10 : decode cX11_takesGood 10 = .ok (.if_icmp .ne 5, 3) := by decide +kernel
theorem dX11_takesGood_13 : decode cX11_takesGood 13 = .ok (.iconst 0, 1) := by decide +kernel
theorem dX11_takesGood_14 : decode cX11_takesGood 14 = .ok (.ireturn, 1) := by decide +kernel
theorem dX11_takesGood_15 : decode cX11_takesGood 15 = .ok (.aload_n 0, 1) := by decide +kernel
theorem dX11_takesGood_16 : decode cX11_takesGood 16 = .ok (.dup, 1) := by decide +kernel
theorem dX11_takesGood_17 : decode cX11_takesGood 17 = .ok (.getfield 73, 3) := by decide +kernel
theorem dX11_takesGood_20 : decode cX11_takesGood 20 = .ok (.iconst 1, 1) := by decide +kernel
theorem dX11_takesGood_21 : decode cX11_takesGood 21 = .ok (.iadd, 1) := by decide +kernel
theorem dX11_takesGood_22 : decode cX11_takesGood 22 = .ok (.putfield 73, 3) := by decide +kernel
theorem dX11_takesGood_25 : decode cX11_takesGood 25 = .ok (.aload_n 0, 1) := by decide +kernel
theorem dX11_takesGood_26 : decode cX11_takesGood 26 = .ok (.iconst 4, 1) := by decide +kernel
theorem dX11_takesGood_27 : decode cX11_takesGood 27 = .ok (.iload_n 1, 1) := by decide +kernel
theorem dX11_takesGood_28 : decode cX11_takesGood 28 = .ok (.iadd, 1) := by decide +kernel
theorem dX11_takesGood_29 : decode cX11_takesGood 29 = .ok (.iconst 0, 1) := by decide +kernel
theorem dX11_takesGood_30 : decode cX11_takesGood 30 = .ok (.bipush 20, 2) := by decide +kernel
theorem dX11_takesGood_32 : decode cX11_takesGood 32 = .ok (.invokevirtual 87, 3) := by decide +kernel
theorem dX11_takesGood_35 : decode cX11_takesGood 35 = .ok (.ifCond .eq 17, 3) := by decide +kernel
theorem dX11_takesGood_38 : decode cX11_takesGood 38 = .ok (.aload_n 0, 1) := by decide +kernel
theorem dX11_takesGood_39 : decode cX11_takesGood 39 = .ok (.bipush 10, 2) := by decide +kernel
theorem dX11_takesGood_41 : decode cX11_takesGood 41 = .ok (.iload_n 1, 1) := by decide +kernel
theorem dX11_takesGood_42 : decode cX11_takesGood 42 = .ok (.iadd, 1) := by decide +kernel
theorem dX11_takesGood_43 : decode cX11_takesGood 43 = .ok (.iconst 0, 1) := by decide +kernel
theorem dX11_takesGood_44 : decode cX11_takesGood 44 = .ok (.bipush 20, 2) := by decide +kernel
theorem dX11_takesGood_46 : decode cX11_takesGood 46 = .ok (.invokevirtual 87, 3) := by decide +kernel
theorem dX11_takesGood_49 : decode cX11_takesGood 49 = .ok (.ifCond .ne 5, 3) := by decide +kernel
theorem dX11_takesGood_52 : decode cX11_takesGood 52 = .ok (.iconst 0, 1) := by decide +kernel
theorem dX11_takesGood_53 : decode cX11_takesGood 53 = .ok (.ireturn, 1) := by decide +kernel
theorem dX11_takesGood_54 : decode cX11_takesGood 54 = .ok (.aload_n 0, 1) := by decide +kernel
theorem dX11_takesGood_55 : decode cX11_takesGood 55 = .ok (.getfield 13, 3) := by decide +kernel
theorem dX11_takesGood_58 : decode cX11_takesGood 58 = .ok (.iconst 0, 1) := by decide +kernel
theorem dX11_takesGood_59 : decode cX11_takesGood 59 = .ok (.dup2, 1) := by decide +kernel
theorem dX11_takesGood_60 : decode cX11_takesGood 60 = .ok (.iaload, 1) := by decide +kernel
theorem dX11_takesGood_61 : decode cX11_takesGood 61 = .ok (.iconst 1, 1) := by decide +kernel
theorem dX11_takesGood_62 : decode cX11_takesGood 62 = .ok (.iadd, 1) := by decide +kernel
theorem dX11_takesGood_63 : decode cX11_takesGood 63 = .ok (.iastore, 1) := by decide +kernel
theorem dX11_takesGood_64 : decode cX11_takesGood 64 = .ok (.aload_n 0, 1) := by decide +kernel
theorem dX11_takesGood_65 : decode cX11_takesGood 65 = .ok (.invokevirtual 91, 3) := by decide +kernel
theorem dX11_takesGood_68 : decode cX11_takesGood 68 = .ok (.ireturn, 1) := by decide +kernel
theorem dX11_takesPair_0 : decode cX11_takesPair 0 = .ok (.aload_n 0, 1) := by decide +kernel
theorem dX11_takesPair_1 : decode cX11_takesPair 1 = .ok (.getfield 13, 3) := by decide +kernel
theorem dX11_takesPair_4 : decode cX11_takesPair 4 = .ok (.iconst 1, 1) := by decide +kernel
theorem dX11_takesPair_5 : decode cX11_takesPair 5 = .ok (.iaload, 1) := by decide +kernel
theorem dX11_takesPair_6 : decode cX11_takesPair 6 = .ok (.istore_n 1, 1) := by decide +kernel
theorem dX11_takesPair_7 : decode cX11_takesPair 7 = .ok (.iload_n 1, 1) := by decide +kernel
theorem dX11_takesPair_8 : decode cX11_takesPair 8 = .ok (.iconst 4, 1) := by decide +kernel
theorem dX11_takesPair_9 : decode cX11_takesPair 9 = .ok (.if_icmp .ne 5, 3) := by decide +kernel
theorem dX11_takesPair_12 : decode cX11_takesPair 12 = .ok (.iconst 0, 1) := by decide +kernel
theorem dX11_takesPair_13 : decode cX11_takesPair 13 = .ok (.ireturn, 1) := by decide +kernel
theorem dX11_takesPair_14 : decode cX11_takesPair 14 = .ok (.aload_n 0, 1) := by decide +kernel
theorem dX11_takesPair_15 : decode cX11_takesPair 15 = .ok (.dup, 1) := by decide +kernel
theorem dX11_takesPair_16 : decode cX11_takesPair 16 = .ok (.getfield 73, 3) := by decide +kernel
theorem dX11_takesPair_19 : decode cX11_takesPair 19 = .ok (.iconst 1, 1) := by decide +kernel
theorem dX11_takesPair_20 : decode cX11_takesPair 20 = .ok (.iadd, 1) := by decide +kernel
theorem dX11_takesPair_21 : decode cX11_takesPair 21 = .ok (.putfield 73, 3) := by decide +kernel
theorem dX11_takesPair_24 : decode cX11_takesPair 24 = .ok (.aload_n 0, 1) := by decide +kernel
theorem dX11_takesPair_25 : decode cX11_takesPair 25 = .ok (.getfield 13, 3) := by decide +kernel
theorem dX11_takesPair_28 : decode cX11_takesPair 28 = .ok (.iconst 0, 1) := by decide +kernel
theorem dX11_takesPair_29 : decode cX11_takesPair 29 = .ok (.iaload, 1) := by decide +kernel
theorem dX11_takesPair_30 : decode cX11_takesPair 30 = .ok (.iconst 1, 1) := by decide +kernel
theorem dX11_takesPair_31 : decode cX11_takesPair 31 = .ok (.isub, 1) := by decide +kernel
theorem dX11_takesPair_32 : decode cX11_takesPair 32 = .ok (.istore_n 2, 1) := by decide +kernel
theorem dX11_takesPair_33 : decode cX11_takesPair 33 = .ok (.aload_n 0, 1) := by decide +kernel
theorem dX11_takesPair_34 : decode cX11_takesPair 34 = .ok (.bipush 16, 2) := by decide +kernel
theorem dX11_takesPair_36 : decode cX11_takesPair 36 = .ok (.iload_n 1, 1) := by decide +kernel
theorem dX11_takesPair_37 : decode cX11_takesPair 37 = .ok (.iadd, 1) := by decide +kernel
theorem dX11_takesPair_38 : decode cX11_takesPair 38 = .ok (.iconst 0, 1) := by decide +kernel
theorem dX11_takesPair_39 : decode cX11_takesPair 39 = .ok (.iload_n 2, 1) := by decide +kernel
theorem dX11_takesPair_40 : decode cX11_takesPair 40 = .ok (.invokevirtual 87, 3) := by decide +kernel
theorem dX11_takesPair_43 : decode cX11_takesPair 43 = .ok (.ifCond .eq 65, 3) := by decide +kernel
theorem dX11_takesPair_46 : decode cX11_takesPair 46 = .ok (.aload_n 0, 1) := by decide +kernel
theorem dX11_takesPair_47 : decode cX11_takesPair 47 = .ok (.bipush 20, 2) := by decide +kernel
theorem dX11_takesPair_49 : decode cX11_takesPair 49 = .ok (.iload_n 1, 1) := by decide +kernel
theorem dX11_takesPair_50 : decode cX11_takesPair 50 = .ok (.iadd, 1) := by decide +kernel
theorem dX11_takesPair_51 : decode cX11_takesPair 51 = .ok (.iconst 0, 1) := by decide +kernel
theorem dX11_takesPair_52 : decode cX11_takesPair 52 = .ok (.iload_n 2, 1) := by decide +kernel
theorem dX11_takesPair_53 : decode cX11_takesPair 53 = .ok (.invokevirtual 87, 3) := by decide +kernel
theorem dX11_takesPair_56 : decode cX11_takesPair 56 = .ok (.ifCond .eq 52, 3) := by decide +kernel
theorem dX11_takesPair_59 : decode cX11_takesPair 59 = .ok (.aload_n 0, 1) := by decide +kernel
theorem dX11_takesPair_60 : decode cX11_takesPair 60 = .ok (.getfield 13, 3) := by decide +kernel
theorem dX11_takesPair_63 : decode cX11_takesPair 63 = .ok (.bipush 20, 2) := by decide +kernel
theorem dX11_takesPair_65 : decode cX11_takesPair 65 = .ok (.iload_n 1, 1) := by decide +kernel
theorem dX11_takesPair_66 : decode cX11_takesPair 66 = .ok (.iadd, 1) := by decide +kernel
theorem dX11_takesPair_67 : decode cX11_takesPair 67 = .ok (.iaload, 1) := by decide +kernel
theorem dX11_takesPair_68 : decode cX11_takesPair 68 = .ok (.aload_n 0, 1) := by decide +kernel
theorem dX11_takesPair_69 : decode cX11_takesPair 69 = .ok (.getfield 13, 3) := by decide +kernel
theorem dX11_takesPair_72 : decode cX11_takesPair 72 = .ok (.bipush 16, 2) := by decide +kernel
theorem dX11_takesPair_74 : decode cX11_takesPair 74 = .ok (.iload_n 1, 1) := by decide +kernel
theorem dX11_takesPair_75 : decode cX11_takesPair 75 = .ok (.iadd, 1) := by decide +kernel
theorem dX11_takesPair_76 : decode cX11_takesPair 76 = .ok (.iaload, 1) := by decide +kernel
theorem dX11_takesPair_77 : decode cX11_takesPair 77 = .ok (.if_icmp .eq 31, 3) := by decide +kernel
theorem dX11_takesPair_80 : decode cX11_takesPair 80 = .ok (.aload_n 0, 1) := by decide +kernel
theorem dX11_takesPair_81 : decode cX11_takesPair 81 = .ok (.bipush 24, 2) := by decide +kernel
theorem dX11_takesPair_83 : decode cX11_takesPair 83 = .ok (.iload_n 1, 1) := by decide +kernel
theorem dX11_takesPair_84 : decode cX11_takesPair 84 = .ok (.iadd, 1) := by decide +kernel
theorem dX11_takesPair_85 : decode cX11_takesPair 85 = .ok (.iconst 0, 1) := by decide +kernel
theorem dX11_takesPair_86 : decode cX11_takesPair 86 = .ok (.bipush 20, 2) := by decide +kernel
theorem dX11_takesPair_88 : decode cX11_takesPair 88 = .ok (.invokevirtual 87, 3) := by decide +kernel
theorem dX11_takesPair_91 : decode cX11_takesPair 91 = .ok (.ifCond .eq 17, 3) := by decide +kernel
theorem dX11_takesPair_94 : decode cX11_takesPair 94 = .ok (.aload_n 0, 1) := by decide +kernel
theorem dX11_takesPair_95 : decode cX11_takesPair 95 = .ok (.bipush 28, 2) := by decide +kernel
theorem dX11_takesPair_97 : decode cX11_takesPair 97 = .ok (.iload_n 1, 1) := by decide +kernel
theorem dX11_takesPair_98 : decode cX11_takesPair 98 = .ok (.iadd, 1) := by decide +kernel
theorem dX11_takesPair_99 : decode cX11_takesPair 99 = .ok (.iconst 0, 1) := by decide +kernel
theorem dX11_takesPair_100 : decode cX11_takesPair 100 = .ok (.bipush 20, 2) := by decide +kernel
theorem dX11_takesPair_102 : decode cX11_takesPair 102 = .ok (.invokevirtual 87, 3) := by decide +kernel
theorem dX11_takesPair_105 : decode cX11_takesPair 105 = .ok (.ifCond .ne 5, 3) := by decide +kernel
theorem dX11_takesPair_108 : decode cX11_takesPair 108 = .ok (.iconst 0, 1) := by decide +kernel
theorem dX11_takesPair_109 : decode cX11_takesPair 109 = .ok (.ireturn, 1) := by decide +kernel
theorem dX11_takesPair_110 : decode cX11_takesPair 110 = .ok (.aload_n 0, 1) := by decide +kernel
theorem dX11_takesPair_111 : decode cX11_takesPair 111 = .ok (.getfield 13, 3) := by decide +kernel
theorem dX11_takesPair_114 : decode cX11_takesPair 114 = .ok (.iconst 1, 1) := by decide +kernel
theorem dX11_takesPair_115 : decode cX11_takesPair 115 = .ok (.dup2, 1) := by decide +kernel
theorem dX11_takesPair_116 : decode cX11_takesPair 116 = .ok (.iaload, 1) := by decide +kernel
theorem dX11_takesPair_117 : decode cX11_takesPair 117 = .ok (.iconst 1, 1) := by decide +kernel
theorem dX11_takesPair_118 : decode cX11_takesPair 118 = .ok (.iadd, 1) := by decide +kernel
theorem dX11_takesPair_119 : decode cX11_takesPair 119 = .ok (.iastore, 1) := by decide +kernel
theorem dX11_takesPair_120 : decode cX11_takesPair 120 = .ok (.aload_n 0, 1) := by decide +kernel
theorem dX11_takesPair_121 : decode cX11_takesPair 121 = .ok (.invokevirtual 91, 3) := by decide +kernel
theorem dX11_takesPair_124 : decode cX11_takesPair 124 = .ok (.ireturn, 1) := by decide +kernel
theorem dX11_takesOne_0 : decode cX11_takesOne 0 = .ok (.aload_n 0, 1) := by decide +kernel
theorem dX11_takesOne_1 : decode cX11_takesOne 1 = .ok (.getfield 94, 3) := by decide +kernel
theorem dX11_takesOne_4 : decode cX11_takesOne 4 = .ok (.iload_n 1, 1) := by decide +kernel
theorem dX11_takesOne_5 : decode cX11_takesOne 5 = .ok (.invokestatic 97, 3) := by decide +kernel
theorem dX11_takesOne_8 : decode cX11_takesOne 8 = .ok (.ifCond .eq 5, 3) := by decide +kernel
theorem dX11_takesOne_11 : decode cX11_takesOne 11 = .ok (.iconst 0, 1) := by decide +kernel
theorem dX11_takesOne_12 : decode cX11_takesOne 12 = .ok (.ireturn, 1) := by decide +kernel
theorem dX11_takesOne_13 : decode cX11_takesOne 13 = .ok (.aload_n 0, 1) := by decide +kernel
theorem dX11_takesOne_14 : decode cX11_takesOne 14 = .ok (.dup, 1) := by decide +kernel
theorem dX11_takesOne_15 : decode cX11_takesOne 15 = .ok (.getfield 73, 3) := by decide +kernel
theorem dX11_takesOne_18 : decode cX11_takesOne 18 = .ok (.iconst 1, 1) := by decide +kernel
theorem dX11_takesOne_19 : decode cX11_takesOne 19 = .ok (.iadd, 1) := by decide +kernel
theorem dX11_takesOne_20 : decode cX11_takesOne 20 = .ok (.putfield 73, 3) := by decide +kernel
theorem dX11_takesOne_23 : decode cX11_takesOne 23 = .ok (.aload_n 0, 1) := by decide +kernel
theorem dX11_takesOne_24 : decode cX11_takesOne 24 = .ok (.dup, 1) := by decide +kernel
theorem dX11_takesOne_25 : decode cX11_takesOne 25 = .ok (.getfield 94, 3) := by decide +kernel
theorem dX11_takesOne_28 : decode cX11_takesOne 28 = .ok (.iconst 1, 1) := by decide +kernel
theorem dX11_takesOne_29 : decode cX11_takesOne 29 = .ok (.iload_n 1, 1) := by decide +kernel
theorem dX11_takesOne_30 : decode cX11_takesOne 30 = .ok (.ishl, 1) := by decide +kernel
theorem dX11_takesOne_31 : decode cX11_takesOne 31 = .ok (.ior, 1) := by decide +kernel
theorem dX11_takesOne_32 : decode cX11_takesOne 32 = .ok (.putfield 94, 3) := by decide +kernel
theorem dX11_takesOne_35 : decode cX11_takesOne 35 = .ok (.aload_n 0, 1) := by decide +kernel
theorem dX11_takesOne_36 : decode cX11_takesOne 36 = .ok (.iload_n 1, 1) := by decide +kernel
theorem dX11_takesOne_37 : decode cX11_takesOne 37 = .ok (.iload_n 2, 1) := by decide +kernel
theorem dX11_takesOne_38 : decode cX11_takesOne 38 = .ok (.iload_n 3, 1) := by decide +kernel
theorem dX11_takesOne_39 : decode cX11_takesOne 39 = .ok (.invokevirtual 87, 3) := by decide +kernel
theorem dX11_takesOne_42 : decode cX11_takesOne 42 = .ok (.ifCond .eq 14, 3) := by decide +kernel
theorem dX11_takesOne_45 : decode cX11_takesOne 45 = .ok (.aload_n 0, 1) := by decide +kernel
theorem dX11_takesOne_46 : decode cX11_takesOne 46 = .ok (.invokevirtual 91, 3) := by decide +kernel
theorem dX11_takesOne_49 : decode cX11_takesOne 49 = .ok (.ifCond .eq 7, 3) := by decide +kernel
theorem dX11_takesOne_52 : decode cX11_takesOne 52 = .ok (.iconst 1, 1) := by decide +kernel
theorem dX11_takesOne_53 : decode cX11_takesOne 53 = .ok (.goto 4, 3) := by decide +kernel
theorem dX11_takesOne_56 : decode cX11_takesOne 56 = .ok (.iconst 0, 1) := by decide +kernel
theorem dX11_takesOne_57 : decode cX11_takesOne 57 = .ok (.ireturn, 1) := by decide +kernel
theorem dX11_takesItem_0 : decode cX11_takesItem 0 = .ok (.iload_n 1, 1) := by decide +kernel
theorem dX11_takesItem_1 : decode cX11_takesItem 1 = .ok (.lookupswitch 70 #[(99, 61), (103, 43), (104, 53), (112, 48)], 43) := by decide +kernel
theorem dX11_takesItem_44 : decode cX11_takesItem 44 = .ok (.aload_n 0, 1) := by decide +kernel
theorem dX11_takesItem_45 : decode cX11_takesItem 45 = .ok (.invokevirtual 101, 3) := by decide +kernel
theorem dX11_takesItem_48 : decode cX11_takesItem 48 = .ok (.ireturn, 1) := by decide +kernel
theorem dX11_takesItem_49 : decode cX11_takesItem 49 = .ok (.aload_n 0, 1) := by decide +kernel
theorem dX11_takesItem_50 : decode cX11_takesItem 50 = .ok (.invokevirtual 104, 3) := by decide +kernel
theorem dX11_takesItem_53 : decode cX11_takesItem 53 = .ok (.ireturn, 1) := by decide +kernel
theorem dX11_takesItem_54 : decode cX11_takesItem 54 = .ok (.aload_n 0, 1) := by decide +kernel
theorem dX11_takesItem_55 : decode cX11_takesItem 55 = .ok (.iconst 2, 1) := by decide +kernel
theorem dX11_takesItem_56 : decode cX11_takesItem 56 = .ok (.iconst 0, 1) := by decide +kernel
theorem dX11_takesItem_57 : decode cX11_takesItem 57 = .ok (.iconst 3, 1) := by decide +kernel
theorem dX11_takesItem_58 : decode cX11_takesItem 58 = .ok (.invokevirtual 107, 3) := by decide +kernel
theorem dX11_takesItem_61 : decode cX11_takesItem 61 = .ok (.ireturn, 1) := by decide +kernel
theorem dX11_takesItem_62 : decode cX11_takesItem 62 = .ok (.aload_n 0, 1) := by decide +kernel
theorem dX11_takesItem_63 : decode cX11_takesItem 63 = .ok (.iconst 3, 1) := by decide +kernel
theorem dX11_takesItem_64 : decode cX11_takesItem 64 = .ok (.iconst 1, 1) := by decide +kernel
theorem dX11_takesItem_65 : decode cX11_takesItem 65 = .ok (.bipush 6, 2) := by decide +kernel
theorem dX11_takesItem_67 : decode cX11_takesItem 67 = .ok (.invokevirtual 107, 3) := by decide +kernel
theorem dX11_takesItem_70 : decode cX11_takesItem 70 = .ok (.ireturn, 1) := by decide +kernel
theorem dX11_takesItem_71 : decode cX11_takesItem 71 = .ok (.iconst 0, 1) := by decide +kernel
theorem dX11_takesItem_72 : decode cX11_takesItem 72 = .ok (.ireturn, 1) := by decide +kernel
theorem dX11_suit_0 : decode cX11_suit 0 = .ok (.aload_n 0, 1) := by decide +kernel
theorem dX11_suit_1 : decode cX11_suit 1 = .ok (.getfield 13, 3) := by decide +kernel
theorem dX11_suit_4 : decode cX11_suit 4 = .ok (.invokestatic 50, 3) := by decide +kernel
theorem dX11_suit_7 : decode cX11_suit 7 = .ok (.aload_n 0, 1) := by decide +kernel
theorem dX11_suit_8 : decode cX11_suit 8 = .ok (.iconst 0, 1) := by decide +kernel
theorem dX11_suit_9 : decode cX11_suit 9 = .ok (.putfield 73, 3) := by decide +kernel
theorem dX11_suit_12 : decode cX11_suit 12 = .ok (.aload_n 0, 1) := by decide +kernel
theorem dX11_suit_13 : decode cX11_suit 13 = .ok (.iconst 0, 1) := by decide +kernel
theorem dX11_suit_14 : decode cX11_suit 14 = .ok (.putfield 94, 3) := by decide +kernel
theorem dX11_suit_17 : decode cX11_suit 17 = .ok (.iconst 0, 1) := by decide +kernel
theorem dX11_suit_18 : decode cX11_suit 18 = .ok (.istore_n 1, 1) := by decide +kernel
theorem dX11_suit_19 : decode cX11_suit 19 = .ok (.aload_n 0, 1) := by decide +kernel
theorem dX11_suit_20 : decode cX11_suit 20 = .ok (.invokevirtual 79, 3) := by decide +kernel
theorem dX11_suit_23 : decode cX11_suit 23 = .ok (.istore_n 2, 1) := by decide +kernel
theorem dX11_suit_24 : decode cX11_suit 24 = .ok (.iload_n 2, 1) := by decide +kernel
theorem dX11_suit_25 : decode cX11_suit 25 = .ok (.ifCond .lt 30, 3) := by decide +kernel
theorem dX11_suit_28 : decode cX11_suit 28 = .ok (.aload_n 0, 1) := by decide +kernel
theorem dX11_suit_29 : decode cX11_suit 29 = .ok (.iload_n 2, 1) := by decide +kernel
theorem dX11_suit_30 : decode cX11_suit 30 = .ok (.invokevirtual 110, 3) := by decide +kernel
theorem dX11_suit_33 : decode cX11_suit 33 = .ok (.ifCond .ne 11, 3) := by decide +kernel
theorem dX11_suit_36 : decode cX11_suit 36 = .ok (.bipush (-10), 2) := by decide +kernel
theorem dX11_suit_38 : decode cX11_suit 38 = .ok (.aload_n 0, 1) := by decide +kernel
theorem dX11_suit_39 : decode cX11_suit 39 = .ok (.getfield 76, 3) := by decide +kernel
theorem dX11_suit_42 : decode cX11_suit 42 = .ok (.isub, 1) := by decide +kernel
theorem dX11_suit_43 : decode cX11_suit 43 = .ok (.ireturn, 1) := by decide +kernel
theorem dX11_suit_44 : decode cX11_suit 44 = .ok (.iinc 1 1, 3) := by decide +kernel
theorem dX11_suit_47 : decode cX11_suit 47 = .ok (.aload_n 0, 1) := by decide +kernel
theorem dX11_suit_48 : decode cX11_suit 48 = .ok (.invokevirtual 79, 3) := by decide +kernel
theorem dX11_suit_51 : decode cX11_suit 51 = .ok (.istore_n 2, 1) := by decide +kernel
theorem dX11_suit_52 : decode cX11_suit 52 = .ok (.goto (-28), 3) := by decide +kernel
theorem dX11_suit_55 : decode cX11_suit 55 = .ok (.iconst 0, 1) := by decide +kernel
theorem dX11_suit_56 : decode cX11_suit 56 = .ok (.istore_n 3, 1) := by decide +kernel
theorem dX11_suit_57 : decode cX11_suit 57 = .ok (.iload_n 3, 1) := by decide +kernel
theorem dX11_suit_58 : decode cX11_suit 58 = .ok (.bipush 32, 2) := by decide +kernel
theorem dX11_suit_60 : decode cX11_suit 60 = .ok (.if_icmp .ge 21, 3) := by decide +kernel
theorem dX11_suit_63 : decode cX11_suit 63 = .ok (.aload_n 0, 1) := by decide +kernel
theorem dX11_suit_64 : decode cX11_suit 64 = .ok (.getfield 7, 3) := by decide +kernel
theorem dX11_suit_67 : decode cX11_suit 67 = .ok (.iload_n 3, 1) := by decide +kernel
theorem dX11_suit_68 : decode cX11_suit 68 = .ok (.aload_n 0, 1) := by decide +kernel
theorem dX11_suit_69 : decode cX11_suit 69 = .ok (.getfield 13, 3) := by decide +kernel
theorem dX11_suit_72 : decode cX11_suit 72 = .ok (.iload_n 3, 1) := by decide +kernel
theorem dX11_suit_73 : decode cX11_suit 73 = .ok (.iaload, 1) := by decide +kernel
theorem dX11_suit_74 : decode cX11_suit 74 = .ok (.iastore, 1) := by decide +kernel
theorem dX11_suit_75 : decode cX11_suit 75 = .ok (.iinc 3 1, 3) := by decide +kernel
theorem dX11_suit_78 : decode cX11_suit 78 = .ok (.goto (-21), 3) := by decide +kernel
theorem dX11_suit_81 : decode cX11_suit 81 = .ok (.aload_n 0, 1) := by decide +kernel
theorem dX11_suit_82 : decode cX11_suit 82 = .ok (.iconst 0, 1) := by decide +kernel
theorem dX11_suit_83 : decode cX11_suit 83 = .ok (.putfield 70, 3) := by decide +kernel
theorem dX11_suit_86 : decode cX11_suit 86 = .ok (.aload_n 0, 1) := by decide +kernel
theorem dX11_suit_87 : decode cX11_suit 87 = .ok (.invokevirtual 54, 3) := by decide +kernel
theorem dX11_suit_90 : decode cX11_suit 90 = .ok (.iload_n 1, 1) := by decide +kernel
theorem dX11_suit_91 : decode cX11_suit 91 = .ok (.ireturn, 1) := by decide +kernel
theorem dX11_isGood_0 : decode cX11_isGood 0 = .ok (.iload_n 1, 1) := by decide +kernel
theorem dX11_isGood_1 : decode cX11_isGood 1 = .ok (.i2l, 1) := by decide +kernel
theorem dX11_isGood_2 : decode cX11_isGood 2 = .ok (.lconst 0, 1) := by decide +kernel
theorem dX11_isGood_3 : decode cX11_isGood 3 = .ok (.aload_n 0, 1) := by decide +kernel
theorem dX11_isGood_4 : decode cX11_isGood 4 = .ok (.getfield 7, 3) := by decide +kernel
theorem dX11_isGood_7 : decode cX11_isGood 7 = .ok (.iconst 0, 1) := by decide +kernel
theorem dX11_isGood_8 : decode cX11_isGood 8 = .ok (.iaload, 1) := by decide +kernel
theorem dX11_isGood_9 : decode cX11_isGood 9 = .ok (.iconst 1, 1) := by decide +kernel
theorem dX11_isGood_10 : decode cX11_isGood 10 = .ok (.isub, 1) := by decide +kernel
theorem dX11_isGood_11 : decode cX11_isGood 11 = .ok (.i2l, 1) := by decide +kernel
theorem dX11_isGood_12 : decode cX11_isGood 12 = .ok (.invokestatic 57, 3) := by decide +kernel
theorem dX11_isGood_15 : decode cX11_isGood 15 = .ok (.ireturn, 1) := by decide +kernel
theorem dX11_all_0 : decode cX11_all 0 = .ok (.iconst 1, 1) := by decide +kernel
theorem dX11_all_1 : decode cX11_all 1 = .ok (.aload_n 0, 1) := by decide +kernel
theorem dX11_all_2 : decode cX11_all 2 = .ok (.getfield 7, 3) := by decide +kernel
theorem dX11_all_5 : decode cX11_all 5 = .ok (.iconst 0, 1) := by decide +kernel
theorem dX11_all_6 : decode cX11_all 6 = .ok (.iaload, 1) := by decide +kernel
theorem dX11_all_7 : decode cX11_all 7 = .ok (.ishl, 1) := by decide +kernel
theorem dX11_all_8 : decode cX11_all 8 = .ok (.iconst 1, 1) := by decide +kernel
theorem dX11_all_9 : decode cX11_all 9 = .ok (.isub, 1) := by decide +kernel
theorem dX11_all_10 : decode cX11_all 10 = .ok (.ireturn, 1) := by decide +kernel
theorem dX11_valued_0 : decode cX11_valued 0 = .ok (.iconst 0, 1) := by decide +kernel
theorem dX11_valued_1 : decode cX11_valued 1 = .ok (.istore_n 3, 1) := by decide +kernel
theorem dX11_valued_2 : decode cX11_valued 2 = .ok (.iconst 0, 1) := by decide +kernel
theorem dX11_valued_3 : decode cX11_valued 3 = .ok (.istore 4, 2) := by decide +kernel
theorem dX11_valued_5 : decode cX11_valued 5 = .ok (.iload 4, 2) := by decide +kernel
theorem dX11_valued_7 : decode cX11_valued 7 = .ok (.aload_n 0, 1) := by decide +kernel
theorem dX11_valued_8 : decode cX11_valued 8 = .ok (.getfield 7, 3) := by decide +kernel
theorem dX11_valued_11 : decode cX11_valued 11 = .ok (.iconst 0, 1) := by decide +kernel
theorem dX11_valued_12 : decode cX11_valued 12 = .ok (.iaload, 1) := by decide +kernel
theorem dX11_valued_13 : decode cX11_valued 13 = .ok (.if_icmp .ge 39, 3) := by decide +kernel
theorem dX11_valued_16 : decode cX11_valued 16 = .ok (.iload_n 3, 1) := by decide +kernel
theorem dX11_valued_17 : decode cX11_valued 17 = .ok (.iload_n 2, 1) := by decide +kernel
theorem dX11_valued_18 : decode cX11_valued 18 = .ok (.iload 4, 2) := by decide +kernel
theorem dX11_valued_20 : decode cX11_valued 20 = .ok (.invokestatic 97, 3) := by decide +kernel
theorem dX11_valued_23 : decode cX11_valued 23 = .ok (.ifCond .eq 20, 3) := by decide +kernel
theorem dX11_valued_26 : decode cX11_valued 26 = .ok (.aload_n 0, 1) := by decide +kernel
theorem dX11_valued_27 : decode cX11_valued 27 = .ok (.getfield 7, 3) := by decide +kernel
theorem dX11_valued_30 : decode cX11_valued 30 = .ok (.iconst 4, 1) := by decide +kernel
theorem dX11_valued_31 : decode cX11_valued 31 = .ok (.bipush 6, 2) := by decide +kernel
theorem dX11_valued_33 : decode cX11_valued 33 = .ok (.iload_n 1, 1) := by decide +kernel
theorem dX11_valued_34 : decode cX11_valued 34 = .ok (.imul, 1) := by decide +kernel
theorem dX11_valued_35 : decode cX11_valued 35 = .ok (.iadd, 1) := by decide +kernel
theorem dX11_valued_36 : decode cX11_valued 36 = .ok (.iload 4, 2) := by decide +kernel
theorem dX11_valued_38 : decode cX11_valued 38 = .ok (.iadd, 1) := by decide +kernel
theorem dX11_valued_39 : decode cX11_valued 39 = .ok (.iaload, 1) := by decide +kernel
theorem dX11_valued_40 : decode cX11_valued 40 = .ok (.goto 4, 3) := by decide +kernel
theorem dX11_valued_43 : decode cX11_valued 43 = .ok (.iconst 0, 1) := by decide +kernel
theorem dX11_valued_44 : decode cX11_valued 44 = .ok (.iadd, 1) := by decide +kernel
theorem dX11_valued_45 : decode cX11_valued 45 = .ok (.istore_n 3, 1) := by decide +kernel
theorem dX11_valued_46 : decode cX11_valued 46 = .ok (.iinc 4 1, 3) := by decide +kernel
theorem dX11_valued_49 : decode cX11_valued 49 = .ok (.goto (-44), 3) := by decide +kernel
theorem dX11_valued_52 : decode cX11_valued 52 = .ok (.iconst 0, 1) := by decide +kernel
theorem dX11_valued_53 : decode cX11_valued 53 = .ok (.istore 4, 2) := by decide +kernel
theorem dX11_valued_55 : decode cX11_valued 55 = .ok (.iload 4, 2) := by decide +kernel
theorem dX11_valued_57 : decode cX11_valued 57 = .ok (.aload_n 0, 1) := by decide +kernel
theorem dX11_valued_58 : decode cX11_valued 58 = .ok (.getfield 7, 3) := by decide +kernel
theorem dX11_valued_61 : decode cX11_valued 61 = .ok (.iconst 1, 1) := by decide +kernel
theorem dX11_valued_62 : decode cX11_valued 62 = .ok (.iaload, 1) := by decide +kernel
theorem dX11_valued_63 : decode cX11_valued 63 = .ok (.if_icmp .ge 64, 3) := by decide +kernel
theorem dX11_valued_66 : decode cX11_valued 66 = .ok (.iload_n 3, 1) := by decide +kernel
theorem dX11_valued_67 : decode cX11_valued 67 = .ok (.iload_n 2, 1) := by decide +kernel
theorem dX11_valued_68 : decode cX11_valued 68 = .ok (.aload_n 0, 1) := by decide +kernel
theorem dX11_valued_69 : decode cX11_valued 69 = .ok (.getfield 7, 3) := by decide +kernel
theorem dX11_valued_72 : decode cX11_valued 72 = .ok (.bipush 16, 2) := by decide +kernel
theorem dX11_valued_74 : decode cX11_valued 74 = .ok (.iload 4, 2) := by decide +kernel
theorem dX11_valued_76 : decode cX11_valued 76 = .ok (.iadd, 1) := by decide +kernel
theorem dX11_valued_77 : decode cX11_valued 77 = .ok (.iaload, 1) := by decide +kernel
theorem dX11_valued_78 : decode cX11_valued 78 = .ok (.invokestatic 97, 3) := by decide +kernel
theorem dX11_valued_81 : decode cX11_valued 81 = .ok (.ifCond .eq 37, 3) := by decide +kernel
theorem dX11_valued_84 : decode cX11_valued 84 = .ok (.iload_n 2, 1) := by decide +kernel
theorem dX11_valued_85 : decode cX11_valued 85 = .ok (.aload_n 0, 1) := by decide +kernel
theorem dX11_valued_86 : decode cX11_valued 86 = .ok (.getfield 7, 3) := by decide +kernel
theorem dX11_valued_89 : decode cX11_valued 89 = .ok (.bipush 20, 2) := by decide +kernel
theorem dX11_valued_91 : decode cX11_valued 91 = .ok (.iload 4, 2) := by decide +kernel
theorem dX11_valued_93 : decode cX11_valued 93 = .ok (.iadd, 1) := by decide +kernel
theorem dX11_valued_94 : decode cX11_valued 94 = .ok (.iaload, 1) := by decide +kernel
theorem dX11_valued_95 : decode cX11_valued 95 = .ok (.invokestatic 97, 3) := by decide +kernel
theorem dX11_valued_98 : decode cX11_valued 98 = .ok (.ifCond .eq 20, 3) := by decide +kernel
theorem dX11_valued_101 : decode cX11_valued 101 = .ok (.aload_n 0, 1) := by decide +kernel
theorem dX11_valued_102 : decode cX11_valued 102 = .ok (.getfield 7, 3) := by decide +kernel
theorem dX11_valued_105 : decode cX11_valued 105 = .ok (.bipush 24, 2) := by decide +kernel
theorem dX11_valued_107 : decode cX11_valued 107 = .ok (.iconst 4, 1) := by decide +kernel
theorem dX11_valued_108 : decode cX11_valued 108 = .ok (.iload_n 1, 1) := by decide +kernel
theorem dX11_valued_109 : decode cX11_valued 109 = .ok (.imul, 1) := by decide +kernel
theorem dX11_valued_110 : decode cX11_valued 110 = .ok (.iadd, 1) := by decide +kernel
theorem dX11_valued_111 : decode cX11_valued 111 = .ok (.iload 4, 2) := by decide +kernel
theorem dX11_valued_113 : decode cX11_valued 113 = .ok (.iadd, 1) := by decide +kernel
theorem dX11_valued_114 : decode cX11_valued 114 = .ok (.iaload, 1) := by decide +kernel
theorem dX11_valued_115 : decode cX11_valued 115 = .ok (.goto 4, 3) := by decide +kernel
theorem dX11_valued_118 : decode cX11_valued 118 = .ok (.iconst 0, 1) := by decide +kernel
theorem dX11_valued_119 : decode cX11_valued 119 = .ok (.iadd, 1) := by decide +kernel
theorem dX11_valued_120 : decode cX11_valued 120 = .ok (.istore_n 3, 1) := by decide +kernel
theorem dX11_valued_121 : decode cX11_valued 121 = .ok (.iinc 4 1, 3) := by decide +kernel
theorem dX11_valued_124 : decode cX11_valued 124 = .ok (.goto (-69), 3) := by decide +kernel
theorem dX11_valued_127 : decode cX11_valued 127 = .ok (.iload_n 3, 1) := by decide +kernel
theorem dX11_valued_128 : decode cX11_valued 128 = .ok (.ireturn, 1) := by decide +kernel
theorem dX11_goodsOf_0 : decode cX11_goodsOf 0 = .ok (.iconst 0, 1) := by decide +kernel
theorem dX11_goodsOf_1 : decode cX11_goodsOf 1 = .ok (.istore_n 2, 1) := by decide +kernel
theorem dX11_goodsOf_2 : decode cX11_goodsOf 2 = .ok (.iconst 0, 1) := by decide +kernel
theorem dX11_goodsOf_3 : decode cX11_goodsOf 3 = .ok (.istore_n 3, 1) := by decide +kernel
theorem dX11_goodsOf_4 : decode cX11_goodsOf 4 = .ok (.iload_n 3, 1) := by decide +kernel
theorem dX11_goodsOf_5 : decode cX11_goodsOf 5 = .ok (.aload_n 0, 1) := by decide +kernel
theorem dX11_goodsOf_6 : decode cX11_goodsOf 6 = .ok (.getfield 7, 3) := by decide +kernel
theorem dX11_goodsOf_9 : decode cX11_goodsOf 9 = .ok (.iconst 0, 1) := by decide +kernel
theorem dX11_goodsOf_10 : decode cX11_goodsOf 10 = .ok (.iaload, 1) := by decide +kernel
theorem dX11_goodsOf_11 : decode cX11_goodsOf 11 = .ok (.if_icmp .ge 31, 3) := by decide +kernel
theorem dX11_goodsOf_14 : decode cX11_goodsOf 14 = .ok (.iload_n 2, 1) := by decide +kernel
theorem dX11_goodsOf_15 : decode cX11_goodsOf 15 = .ok (.aload_n 0, 1) := by decide +kernel
theorem dX11_goodsOf_16 : decode cX11_goodsOf 16 = .ok (.getfield 16, 3) := by decide +kernel
theorem dX11_goodsOf_19 : decode cX11_goodsOf 19 = .ok (.iconst 0, 1) := by decide +kernel
theorem dX11_goodsOf_20 : decode cX11_goodsOf 20 = .ok (.iload_n 3, 1) := by decide +kernel
theorem dX11_goodsOf_21 : decode cX11_goodsOf 21 = .ok (.iadd, 1) := by decide +kernel
theorem dX11_goodsOf_22 : decode cX11_goodsOf 22 = .ok (.iaload, 1) := by decide +kernel
theorem dX11_goodsOf_23 : decode cX11_goodsOf 23 = .ok (.iload_n 1, 1) := by decide +kernel
theorem dX11_goodsOf_24 : decode cX11_goodsOf 24 = .ok (.if_icmp .ne 9, 3) := by decide +kernel
theorem dX11_goodsOf_27 : decode cX11_goodsOf 27 = .ok (.iconst 1, 1) := by decide +kernel
theorem dX11_goodsOf_28 : decode cX11_goodsOf 28 = .ok (.iload_n 3, 1) := by decide +kernel
theorem dX11_goodsOf_29 : decode cX11_goodsOf 29 = .ok (.ishl, 1) := by decide +kernel
theorem dX11_goodsOf_30 : decode cX11_goodsOf 30 = .ok (.goto 4, 3) := by decide +kernel
theorem dX11_goodsOf_33 : decode cX11_goodsOf 33 = .ok (.iconst 0, 1) := by decide +kernel
theorem dX11_goodsOf_34 : decode cX11_goodsOf 34 = .ok (.ior, 1) := by decide +kernel
theorem dX11_goodsOf_35 : decode cX11_goodsOf 35 = .ok (.istore_n 2, 1) := by decide +kernel
theorem dX11_goodsOf_36 : decode cX11_goodsOf 36 = .ok (.iinc 3 1, 3) := by decide +kernel
theorem dX11_goodsOf_39 : decode cX11_goodsOf 39 = .ok (.goto (-35), 3) := by decide +kernel
theorem dX11_goodsOf_42 : decode cX11_goodsOf 42 = .ok (.iload_n 2, 1) := by decide +kernel
theorem dX11_goodsOf_43 : decode cX11_goodsOf 43 = .ok (.ireturn, 1) := by decide +kernel
theorem dX11_good_0 : decode cX11_good 0 = .ok (.aload_n 0, 1) := by decide +kernel
theorem dX11_good_1 : decode cX11_good 1 = .ok (.iload_n 1, 1) := by decide +kernel
theorem dX11_good_2 : decode cX11_good 2 = .ok (.invokevirtual 114, 3) := by decide +kernel
theorem dX11_good_5 : decode cX11_good 5 = .ok (.ifCond .eq 15, 3) := by decide +kernel
theorem dX11_good_8 : decode cX11_good 8 = .ok (.iload_n 2, 1) := by decide +kernel
theorem dX11_good_9 : decode cX11_good 9 = .ok (.i2l, 1) := by decide +kernel
theorem dX11_good_10 : decode cX11_good 10 = .ok (.lconst 0, 1) := by decide +kernel
theorem dX11_good_11 : decode cX11_good 11 = .ok (.ldc2_w 117, 3) := by decide +kernel
theorem dX11_good_14 : decode cX11_good 14 = .ok (.invokestatic 57, 3) := by decide +kernel
theorem dX11_good_17 : decode cX11_good 17 = .ok (.ifCond .ne 5, 3) := by decide +kernel
theorem dX11_good_20 : decode cX11_good 20 = .ok (.iconst (-1), 1) := by decide +kernel
theorem dX11_good_21 : decode cX11_good 21 = .ok (.ireturn, 1) := by decide +kernel
theorem dX11_good_22 : decode cX11_good 22 = .ok (.iload_n 2, 1) := by decide +kernel
theorem dX11_good_23 : decode cX11_good 23 = .ok (.iconst 2, 1) := by decide +kernel
theorem dX11_good_24 : decode cX11_good 24 = .ok (.if_icmp .ge 19, 3) := by decide +kernel
theorem dX11_good_27 : decode cX11_good 27 = .ok (.aload_n 0, 1) := by decide +kernel
theorem dX11_good_28 : decode cX11_good 28 = .ok (.getfield 7, 3) := by decide +kernel
theorem dX11_good_31 : decode cX11_good 31 = .ok (.iconst 4, 1) := by decide +kernel
theorem dX11_good_32 : decode cX11_good 32 = .ok (.bipush 6, 2) := by decide +kernel
theorem dX11_good_34 : decode cX11_good 34 = .ok (.iload_n 2, 1) := by decide +kernel
theorem dX11_good_35 : decode cX11_good 35 = .ok (.imul, 1) := by decide +kernel
theorem dX11_good_36 : decode cX11_good 36 = .ok (.iadd, 1) := by decide +kernel
theorem dX11_good_37 : decode cX11_good 37 = .ok (.iload_n 1, 1) := by decide +kernel
theorem dX11_good_38 : decode cX11_good 38 = .ok (.iadd, 1) := by decide +kernel
theorem dX11_good_39 : decode cX11_good 39 = .ok (.iaload, 1) := by decide +kernel
theorem dX11_good_40 : decode cX11_good 40 = .ok (.goto 11, 3) := by decide +kernel
theorem dX11_good_43 : decode cX11_good 43 = .ok (.aload_n 0, 1) := by decide +kernel
theorem dX11_good_44 : decode cX11_good 44 = .ok (.getfield 16, 3) := by decide +kernel
theorem dX11_good_47 : decode cX11_good 47 = .ok (.iconst 0, 1) := by decide +kernel
theorem dX11_good_48 : decode cX11_good 48 = .ok (.iload_n 1, 1) := by decide +kernel
theorem dX11_good_49 : decode cX11_good 49 = .ok (.iadd, 1) := by decide +kernel
theorem dX11_good_50 : decode cX11_good 50 = .ok (.iaload, 1) := by decide +kernel
theorem dX11_good_51 : decode cX11_good 51 = .ok (.ireturn, 1) := by decide +kernel
theorem dX11_values_0 : decode cX11_values 0 = .ok (.iload_n 1, 1) := by decide +kernel
theorem dX11_values_1 : decode cX11_values 1 = .ok (.invokestatic 119, 3) := by decide +kernel
theorem dX11_values_4 : decode cX11_values 4 = .ok (.ifCond .eq 26, 3) := by decide +kernel
theorem dX11_values_7 : decode cX11_values 7 = .ok (.iload_n 2, 1) := by decide +kernel
theorem dX11_values_8 : decode cX11_values 8 = .ok (.i2l, 1) := by decide +kernel
theorem dX11_values_9 : decode cX11_values 9 = .ok (.lconst 0, 1) := by decide +kernel
theorem dX11_values_10 : decode cX11_values 10 = .ok (.aload_n 0, 1) := by decide +kernel
theorem dX11_values_11 : decode cX11_values 11 = .ok (.invokevirtual 122, 3) := by decide +kernel
theorem dX11_values_14 : decode cX11_values 14 = .ok (.i2l, 1) := by decide +kernel
theorem dX11_values_15 : decode cX11_values 15 = .ok (.invokestatic 57, 3) := by decide +kernel
theorem dX11_values_18 : decode cX11_values 18 = .ok (.ifCond .eq 12, 3) := by decide +kernel
theorem dX11_values_21 : decode cX11_values 21 = .ok (.aload_n 0, 1) := by decide +kernel
theorem dX11_values_22 : decode cX11_values 22 = .ok (.iload_n 1, 1) := by decide +kernel
theorem dX11_values_23 : decode cX11_values 23 = .ok (.iload_n 2, 1) := by decide +kernel
theorem dX11_values_24 : decode cX11_values 24 = .ok (.invokevirtual 125, 3) := by decide +kernel
theorem dX11_values_27 : decode cX11_values 27 = .ok (.goto 4, 3) := by decide +kernel
theorem dX11_values_30 : decode cX11_values 30 = .ok (.iconst (-1), 1) := by decide +kernel
theorem dX11_values_31 : decode cX11_values 31 = .ok (.ireturn, 1) := by decide +kernel
theorem dX11_now_0 : decode cX11_now 0 = .ok (.iload_n 1, 1) := by decide +kernel
theorem dX11_now_1 : decode cX11_now 1 = .ok (.tableswitch 54 0 4 #[35, 35, 35, 41, 49], 35) := by decide +kernel
theorem dX11_now_36 : decode cX11_now 36 = .ok (.aload_n 0, 1) := by decide +kernel
theorem dX11_now_37 : decode cX11_now 37 = .ok (.iload_n 1, 1) := by decide +kernel
theorem dX11_now_38 : decode cX11_now 38 = .ok (.invokevirtual 129, 3) := by decide +kernel
theorem dX11_now_41 : decode cX11_now 41 = .ok (.ireturn, 1) := by decide +kernel
theorem dX11_now_42 : decode cX11_now 42 = .ok (.aload_n 0, 1) := by decide +kernel
theorem dX11_now_43 : decode cX11_now 43 = .ok (.getfield 16, 3) := by decide +kernel
theorem dX11_now_46 : decode cX11_now 46 = .ok (.bipush 6, 2) := by decide +kernel
theorem dX11_now_48 : decode cX11_now 48 = .ok (.iaload, 1) := by decide +kernel
theorem dX11_now_49 : decode cX11_now 49 = .ok (.ireturn, 1) := by decide +kernel
theorem dX11_now_50 : decode cX11_now 50 = .ok (.aload_n 0, 1) := by decide +kernel
theorem dX11_now_51 : decode cX11_now 51 = .ok (.getfield 61, 3) := by decide +kernel
theorem dX11_now_54 : decode cX11_now 54 = .ok (.ireturn, 1) := by decide +kernel
theorem dX11_now_55 : decode cX11_now 55 = .ok (.iconst (-1), 1) := by decide +kernel
theorem dX11_now_56 : decode cX11_now 56 = .ok (.ireturn, 1) := by decide +kernel
theorem dX11_copies_0 : decode cX11_copies 0 = .ok (.iconst 0, 1) := by decide +kernel
theorem dX11_copies_1 : decode cX11_copies 1 = .ok (.istore 4, 2) := by decide +kernel
theorem dX11_copies_3 : decode cX11_copies 3 = .ok (.iload 4, 2) := by decide +kernel
theorem dX11_copies_5 : decode cX11_copies 5 = .ok (.bipush 9, 2) := by decide +kernel
theorem dX11_copies_7 : decode cX11_copies 7 = .ok (.if_icmp .ge 21, 3) := by decide +kernel
theorem dX11_copies_10 : decode cX11_copies 10 = .ok (.aload_n 2, 1) := by decide +kernel
theorem dX11_copies_11 : decode cX11_copies 11 = .ok (.iload_n 3, 1) := by decide +kernel
theorem dX11_copies_12 : decode cX11_copies 12 = .ok (.iload 4, 2) := by decide +kernel
theorem dX11_copies_14 : decode cX11_copies 14 = .ok (.iadd, 1) := by decide +kernel
theorem dX11_copies_15 : decode cX11_copies 15 = .ok (.aload_n 0, 1) := by decide +kernel
theorem dX11_copies_16 : decode cX11_copies 16 = .ok (.iload_n 1, 1) := by decide +kernel
theorem dX11_copies_17 : decode cX11_copies 17 = .ok (.iload 4, 2) := by decide +kernel
theorem dX11_copies_19 : decode cX11_copies 19 = .ok (.iadd, 1) := by decide +kernel
theorem dX11_copies_20 : decode cX11_copies 20 = .ok (.iaload, 1) := by decide +kernel
theorem dX11_copies_21 : decode cX11_copies 21 = .ok (.iastore, 1) := by decide +kernel
theorem dX11_copies_22 : decode cX11_copies 22 = .ok (.iinc 4 1, 3) := by decide +kernel
theorem dX11_copies_25 : decode cX11_copies 25 = .ok (.goto (-22), 3) := by decide +kernel
theorem dX11_copies_28 : decode cX11_copies 28 = .ok (.return_, 1) := by decide +kernel
theorem dX11_remember_0 : decode cX11_remember 0 = .ok (.aload_n 0, 1) := by decide +kernel
theorem dX11_remember_1 : decode cX11_remember 1 = .ok (.getfield 61, 3) := by decide +kernel
theorem dX11_remember_4 : decode cX11_remember 4 = .ok (.bipush 10, 2) := by decide +kernel
theorem dX11_remember_6 : decode cX11_remember 6 = .ok (.if_icmp .ne 42, 3) := by decide +kernel
theorem dX11_remember_9 : decode cX11_remember 9 = .ok (.iconst 0, 1) := by decide +kernel
theorem dX11_remember_10 : decode cX11_remember 10 = .ok (.istore_n 1, 1) := by decide +kernel
theorem dX11_remember_11 : decode cX11_remember 11 = .ok (.iload_n 1, 1) := by decide +kernel
theorem dX11_remember_12 : decode cX11_remember 12 = .ok (.bipush 81, 2) := by decide +kernel
theorem dX11_remember_14 : decode cX11_remember 14 = .ok (.if_icmp .ge 24, 3) := by decide +kernel
theorem dX11_remember_17 : decode cX11_remember 17 = .ok (.aload_n 0, 1) := by decide +kernel
theorem dX11_remember_18 : decode cX11_remember 18 = .ok (.getfield 19, 3) := by decide +kernel
theorem dX11_remember_21 : decode cX11_remember 21 = .ok (.iload_n 1, 1) := by decide +kernel
theorem dX11_remember_22 : decode cX11_remember 22 = .ok (.aload_n 0, 1) := by decide +kernel
theorem dX11_remember_23 : decode cX11_remember 23 = .ok (.getfield 19, 3) := by decide +kernel
theorem dX11_remember_26 : decode cX11_remember 26 = .ok (.iload_n 1, 1) := by decide +kernel
theorem dX11_remember_27 : decode cX11_remember 27 = .ok (.bipush 9, 2) := by decide +kernel
theorem dX11_remember_29 : decode cX11_remember 29 = .ok (.iadd, 1) := by decide +kernel
theorem dX11_remember_30 : decode cX11_remember 30 = .ok (.iaload, 1) := by decide +kernel
theorem dX11_remember_31 : decode cX11_remember 31 = .ok (.iastore, 1) := by decide +kernel
theorem dX11_remember_32 : decode cX11_remember 32 = .ok (.iinc 1 1, 3) := by decide +kernel
theorem dX11_remember_35 : decode cX11_remember 35 = .ok (.goto (-24), 3) := by decide +kernel
theorem dX11_remember_38 : decode cX11_remember 38 = .ok (.aload_n 0, 1) := by decide +kernel
theorem dX11_remember_39 : decode cX11_remember 39 = .ok (.dup, 1) := by decide +kernel
theorem dX11_remember_40 : decode cX11_remember 40 = .ok (.getfield 61, 3) := by decide +kernel
theorem dX11_remember_43 : decode cX11_remember 43 = .ok (.iconst 1, 1) := by decide +kernel
theorem dX11_remember_44 : decode cX11_remember 44 = .ok (.isub, 1) := by decide +kernel
theorem dX11_remember_45 : decode cX11_remember 45 = .ok (.putfield 61, 3) := by decide +kernel
theorem dX11_remember_48 : decode cX11_remember 48 = .ok (.aload_n 0, 1) := by decide +kernel
theorem dX11_remember_49 : decode cX11_remember 49 = .ok (.getfield 16, 3) := by decide +kernel
theorem dX11_remember_52 : decode cX11_remember 52 = .ok (.iconst 0, 1) := by decide +kernel
theorem dX11_remember_53 : decode cX11_remember 53 = .ok (.aload_n 0, 1) := by decide +kernel
theorem dX11_remember_54 : decode cX11_remember 54 = .ok (.getfield 19, 3) := by decide +kernel
theorem dX11_remember_57 : decode cX11_remember 57 = .ok (.bipush 9, 2) := by decide +kernel
theorem dX11_remember_59 : decode cX11_remember 59 = .ok (.aload_n 0, 1) := by decide +kernel
theorem dX11_remember_60 : decode cX11_remember 60 = .ok (.getfield 61, 3) := by decide +kernel
theorem dX11_remember_63 : decode cX11_remember 63 = .ok (.imul, 1) := by decide +kernel
theorem dX11_remember_64 : decode cX11_remember 64 = .ok (.invokestatic 133, 3) := by decide +kernel
theorem dX11_remember_67 : decode cX11_remember 67 = .ok (.aload_n 0, 1) := by decide +kernel
theorem dX11_remember_68 : decode cX11_remember 68 = .ok (.dup, 1) := by decide +kernel
theorem dX11_remember_69 : decode cX11_remember 69 = .ok (.getfield 61, 3) := by decide +kernel
theorem dX11_remember_72 : decode cX11_remember 72 = .ok (.iconst 1, 1) := by decide +kernel
theorem dX11_remember_73 : decode cX11_remember 73 = .ok (.iadd, 1) := by decide +kernel
theorem dX11_remember_74 : decode cX11_remember 74 = .ok (.putfield 61, 3) := by decide +kernel
theorem dX11_remember_77 : decode cX11_remember 77 = .ok (.return_, 1) := by decide +kernel
theorem dX11_gives_0 : decode cX11_gives 0 = .ok (.aload_n 0, 1) := by decide +kernel
theorem dX11_gives_1 : decode cX11_gives 1 = .ok (.iload_n 1, 1) := by decide +kernel
theorem dX11_gives_2 : decode cX11_gives 2 = .ok (.invokevirtual 114, 3) := by decide +kernel
theorem dX11_gives_5 : decode cX11_gives 5 = .ok (.ifCond .eq 15, 3) := by decide +kernel
theorem dX11_gives_8 : decode cX11_gives 8 = .ok (.iload_n 2, 1) := by decide +kernel
theorem dX11_gives_9 : decode cX11_gives 9 = .ok (.i2l, 1) := by decide +kernel
theorem dX11_gives_10 : decode cX11_gives 10 = .ok (.lconst 0, 1) := by decide +kernel
theorem dX11_gives_11 : decode cX11_gives 11 = .ok (.ldc2_w 117, 3) := by decide +kernel
theorem dX11_gives_14 : decode cX11_gives 14 = .ok (.invokestatic 57, 3) := by decide +kernel
theorem dX11_gives_17 : decode cX11_gives 17 = .ok (.ifCond .ne 5, 3) := by decide +kernel
theorem dX11_gives_20 : decode cX11_gives 20 = .ok (.iconst (-1), 1) := by decide +kernel
theorem dX11_gives_21 : decode cX11_gives 21 = .ok (.ireturn, 1) := by decide +kernel
theorem dX11_gives_22 : decode cX11_gives 22 = .ok (.aload_n 0, 1) := by decide +kernel
theorem dX11_gives_23 : decode cX11_gives 23 = .ok (.invokevirtual 137, 3) := by decide +kernel
theorem dX11_gives_26 : decode cX11_gives 26 = .ok (.aload_n 0, 1) := by decide +kernel
theorem dX11_gives_27 : decode cX11_gives 27 = .ok (.getfield 16, 3) := by decide +kernel
theorem dX11_gives_30 : decode cX11_gives 30 = .ok (.iconst 0, 1) := by decide +kernel
theorem dX11_gives_31 : decode cX11_gives 31 = .ok (.iload_n 1, 1) := by decide +kernel
theorem dX11_gives_32 : decode cX11_gives 32 = .ok (.iadd, 1) := by decide +kernel
theorem dX11_gives_33 : decode cX11_gives 33 = .ok (.iaload, 1) := by decide +kernel
theorem dX11_gives_34 : decode cX11_gives 34 = .ok (.istore_n 3, 1) := by decide +kernel
theorem dX11_gives_35 : decode cX11_gives 35 = .ok (.aload_n 0, 1) := by decide +kernel
theorem dX11_gives_36 : decode cX11_gives 36 = .ok (.getfield 16, 3) := by decide +kernel
theorem dX11_gives_39 : decode cX11_gives 39 = .ok (.iconst 0, 1) := by decide +kernel
theorem dX11_gives_40 : decode cX11_gives 40 = .ok (.iload_n 1, 1) := by decide +kernel
theorem dX11_gives_41 : decode cX11_gives 41 = .ok (.iadd, 1) := by decide +kernel
theorem dX11_gives_42 : decode cX11_gives 42 = .ok (.iload_n 2, 1) := by decide +kernel
theorem dX11_gives_43 : decode cX11_gives 43 = .ok (.iastore, 1) := by decide +kernel
theorem dX11_gives_44 : decode cX11_gives 44 = .ok (.iload_n 3, 1) := by decide +kernel
theorem dX11_gives_45 : decode cX11_gives 45 = .ok (.ireturn, 1) := by decide +kernel
theorem dX11_footOf_0 : decode cX11_footOf 0 = .ok (.aload_n 0, 1) := by decide +kernel
theorem dX11_footOf_1 : decode cX11_footOf 1 = .ok (.getfield 16, 3) := by decide +kernel
theorem dX11_footOf_4 : decode cX11_footOf 4 = .ok (.bipush 7, 2) := by decide +kernel
theorem dX11_footOf_6 : decode cX11_footOf 6 = .ok (.iload_n 1, 1) := by decide +kernel
theorem dX11_footOf_7 : decode cX11_footOf 7 = .ok (.bipush 30, 2) := by decide +kernel
theorem dX11_footOf_9 : decode cX11_footOf 9 = .ok (.idiv, 1) := by decide +kernel
theorem dX11_footOf_10 : decode cX11_footOf 10 = .ok (.iadd, 1) := by decide +kernel
theorem dX11_footOf_11 : decode cX11_footOf 11 = .ok (.iaload, 1) := by decide +kernel
theorem dX11_footOf_12 : decode cX11_footOf 12 = .ok (.iload_n 1, 1) := by decide +kernel
theorem dX11_footOf_13 : decode cX11_footOf 13 = .ok (.bipush 30, 2) := by decide +kernel
theorem dX11_footOf_15 : decode cX11_footOf 15 = .ok (.irem, 1) := by decide +kernel
theorem dX11_footOf_16 : decode cX11_footOf 16 = .ok (.ishr, 1) := by decide +kernel
theorem dX11_footOf_17 : decode cX11_footOf 17 = .ok (.iconst 1, 1) := by decide +kernel
theorem dX11_footOf_18 : decode cX11_footOf 18 = .ok (.iand, 1) := by decide +kernel
theorem dX11_footOf_19 : decode cX11_footOf 19 = .ok (.ireturn, 1) := by decide +kernel
theorem dX11_wornBy_0 : decode cX11_wornBy 0 = .ok (.iconst 0, 1) := by decide +kernel
theorem dX11_wornBy_1 : decode cX11_wornBy 1 = .ok (.istore 4, 2) := by decide +kernel
theorem dX11_wornBy_3 : decode cX11_wornBy 3 = .ok (.iconst 0, 1) := by decide +kernel
theorem dX11_wornBy_4 : decode cX11_wornBy 4 = .ok (.istore 5, 2) := by decide +kernel
theorem dX11_wornBy_6 : decode cX11_wornBy 6 = .ok (.iconst 0, 1) := by decide +kernel
theorem dX11_wornBy_7 : decode cX11_wornBy 7 = .ok (.istore 6, 2) := by decide +kernel
theorem dX11_wornBy_9 : decode cX11_wornBy 9 = .ok (.iload 6, 2) := by decide +kernel
theorem dX11_wornBy_11 : decode cX11_wornBy 11 = .ok (.aload_n 0, 1) := by decide +kernel
theorem dX11_wornBy_12 : decode cX11_wornBy 12 = .ok (.getfield 16, 3) := by decide +kernel
theorem dX11_wornBy_15 : decode cX11_wornBy 15 = .ok (.bipush 6, 2) := by decide +kernel
theorem dX11_wornBy_17 : decode cX11_wornBy 17 = .ok (.iaload, 1) := by decide +kernel
theorem dX11_wornBy_18 : decode cX11_wornBy 18 = .ok (.if_icmp .ge 66, 3) := by decide +kernel
theorem dX11_wornBy_21 : decode cX11_wornBy 21 = .ok (.iload 6, 2) := by decide +kernel
theorem dX11_wornBy_23 : decode cX11_wornBy 23 = .ok (.iload_n 3, 1) := by decide +kernel
theorem dX11_wornBy_24 : decode cX11_wornBy 24 = .ok (.if_icmp .ne 14, 3) := by decide +kernel
theorem dX11_wornBy_27 : decode cX11_wornBy 27 = .ok (.iconst 1, 1) := by decide +kernel
theorem dX11_wornBy_28 : decode cX11_wornBy 28 = .ok (.aload_n 0, 1) := by decide +kernel
theorem dX11_wornBy_29 : decode cX11_wornBy 29 = .ok (.iload 6, 2) := by decide +kernel
theorem dX11_wornBy_31 : decode cX11_wornBy 31 = .ok (.invokevirtual 140, 3) := by decide +kernel
theorem dX11_wornBy_34 : decode cX11_wornBy 34 = .ok (.isub, 1) := by decide +kernel
theorem dX11_wornBy_35 : decode cX11_wornBy 35 = .ok (.goto 9, 3) := by decide +kernel
theorem dX11_wornBy_38 : decode cX11_wornBy 38 = .ok (.aload_n 0, 1) := by decide +kernel
theorem dX11_wornBy_39 : decode cX11_wornBy 39 = .ok (.iload 6, 2) := by decide +kernel
theorem dX11_wornBy_41 : decode cX11_wornBy 41 = .ok (.invokevirtual 140, 3) := by decide +kernel
theorem dX11_wornBy_44 : decode cX11_wornBy 44 = .ok (.istore 7, 2) := by decide +kernel
theorem dX11_wornBy_46 : decode cX11_wornBy 46 = .ok (.iload 7, 2) := by decide +kernel
theorem dX11_wornBy_48 : decode cX11_wornBy 48 = .ok (.iload_n 1, 1) := by decide +kernel
theorem dX11_wornBy_49 : decode cX11_wornBy 49 = .ok (.if_icmp .ne 29, 3) := by decide +kernel
theorem dX11_wornBy_52 : decode cX11_wornBy 52 = .ok (.iload 5, 2) := by decide +kernel
theorem dX11_wornBy_54 : decode cX11_wornBy 54 = .ok (.iload 4, 2) := by decide +kernel
theorem dX11_wornBy_56 : decode cX11_wornBy 56 = .ok (.aload_n 0, 1) := by decide +kernel
theorem dX11_wornBy_57 : decode cX11_wornBy 57 = .ok (.getfield 7, 3) := by decide +kernel
theorem dX11_wornBy_60 : decode cX11_wornBy 60 = .ok (.iconst 3, 1) := by decide +kernel
theorem dX11_wornBy_61 : decode cX11_wornBy 61 = .ok (.iaload, 1) := by decide +kernel
theorem dX11_wornBy_62 : decode cX11_wornBy 62 = .ok (.irem, 1) := by decide +kernel
theorem dX11_wornBy_63 : decode cX11_wornBy 63 = .ok (.iload_n 2, 1) := by decide +kernel
theorem dX11_wornBy_64 : decode cX11_wornBy 64 = .ok (.if_icmp .ne 7, 3) := by decide +kernel
theorem dX11_wornBy_67 : decode cX11_wornBy 67 = .ok (.iconst 1, 1) := by decide +kernel
theorem dX11_wornBy_68 : decode cX11_wornBy 68 = .ok (.goto 4, 3) := by decide +kernel
theorem dX11_wornBy_71 : decode cX11_wornBy 71 = .ok (.iconst 0, 1) := by decide +kernel
theorem dX11_wornBy_72 : decode cX11_wornBy 72 = .ok (.iadd, 1) := by decide +kernel
theorem dX11_wornBy_73 : decode cX11_wornBy 73 = .ok (.istore 5, 2) := by decide +kernel
theorem dX11_wornBy_75 : decode cX11_wornBy 75 = .ok (.iinc 4 1, 3) := by decide +kernel
theorem dX11_wornBy_78 : decode cX11_wornBy 78 = .ok (.iinc 6 1, 3) := by decide +kernel
theorem dX11_wornBy_81 : decode cX11_wornBy 81 = .ok (.goto (-72), 3) := by decide +kernel
theorem dX11_wornBy_84 : decode cX11_wornBy 84 = .ok (.iload 5, 2) := by decide +kernel
theorem dX11_wornBy_86 : decode cX11_wornBy 86 = .ok (.ireturn, 1) := by decide +kernel
theorem dX11_stepsOf_0 : decode cX11_stepsOf 0 = .ok (.iconst 0, 1) := by decide +kernel
theorem dX11_stepsOf_1 : decode cX11_stepsOf 1 = .ok (.istore_n 2, 1) := by decide +kernel
theorem dX11_stepsOf_2 : decode cX11_stepsOf 2 = .ok (.iconst 0, 1) := by decide +kernel
theorem dX11_stepsOf_3 : decode cX11_stepsOf 3 = .ok (.istore_n 3, 1) := by decide +kernel
theorem dX11_stepsOf_4 : decode cX11_stepsOf 4 = .ok (.iload_n 3, 1) := by decide +kernel
theorem dX11_stepsOf_5 : decode cX11_stepsOf 5 = .ok (.aload_n 0, 1) := by decide +kernel
theorem dX11_stepsOf_6 : decode cX11_stepsOf 6 = .ok (.getfield 16, 3) := by decide +kernel
theorem dX11_stepsOf_9 : decode cX11_stepsOf 9 = .ok (.bipush 6, 2) := by decide +kernel
theorem dX11_stepsOf_11 : decode cX11_stepsOf 11 = .ok (.iaload, 1) := by decide +kernel
theorem dX11_stepsOf_12 : decode cX11_stepsOf 12 = .ok (.if_icmp .ge 26, 3) := by decide +kernel
theorem dX11_stepsOf_15 : decode cX11_stepsOf 15 = .ok (.iload_n 2, 1) := by decide +kernel
theorem dX11_stepsOf_16 : decode cX11_stepsOf 16 = .ok (.aload_n 0, 1) := by decide +kernel
theorem dX11_stepsOf_17 : decode cX11_stepsOf 17 = .ok (.iload_n 3, 1) := by decide +kernel
theorem dX11_stepsOf_18 : decode cX11_stepsOf 18 = .ok (.invokevirtual 140, 3) := by decide +kernel
theorem dX11_stepsOf_21 : decode cX11_stepsOf 21 = .ok (.iload_n 1, 1) := by decide +kernel
theorem dX11_stepsOf_22 : decode cX11_stepsOf 22 = .ok (.if_icmp .ne 7, 3) := by decide +kernel
theorem dX11_stepsOf_25 : decode cX11_stepsOf 25 = .ok (.iconst 1, 1) := by decide +kernel
theorem dX11_stepsOf_26 : decode cX11_stepsOf 26 = .ok (.goto 4, 3) := by decide +kernel
theorem dX11_stepsOf_29 : decode cX11_stepsOf 29 = .ok (.iconst 0, 1) := by decide +kernel
theorem dX11_stepsOf_30 : decode cX11_stepsOf 30 = .ok (.iadd, 1) := by decide +kernel
theorem dX11_stepsOf_31 : decode cX11_stepsOf 31 = .ok (.istore_n 2, 1) := by decide +kernel
theorem dX11_stepsOf_32 : decode cX11_stepsOf 32 = .ok (.iinc 3 1, 3) := by decide +kernel
theorem dX11_stepsOf_35 : decode cX11_stepsOf 35 = .ok (.goto (-31), 3) := by decide +kernel
theorem dX11_stepsOf_38 : decode cX11_stepsOf 38 = .ok (.iload_n 2, 1) := by decide +kernel
theorem dX11_stepsOf_39 : decode cX11_stepsOf 39 = .ok (.ireturn, 1) := by decide +kernel
theorem dX11_steps_0 : decode cX11_steps 0 = .ok (.iload_n 1, 1) := by decide +kernel
theorem dX11_steps_1 : decode cX11_steps 1 = .ok (.invokestatic 119, 3) := by decide +kernel
theorem dX11_steps_4 : decode cX11_steps 4 = .ok (.ifCond .ne 5, 3) := by decide +kernel
theorem dX11_steps_7 : decode cX11_steps 7 = .ok (.iconst (-1), 1) := by decide +kernel
theorem dX11_steps_8 : decode cX11_steps 8 = .ok (.ireturn, 1) := by decide +kernel
theorem dX11_steps_9 : decode cX11_steps 9 = .ok (.aload_n 0, 1) := by decide +kernel
theorem dX11_steps_10 : decode cX11_steps 10 = .ok (.getfield 16, 3) := by decide +kernel
theorem dX11_steps_13 : decode cX11_steps 13 = .ok (.bipush 6, 2) := by decide +kernel
theorem dX11_steps_15 : decode cX11_steps 15 = .ok (.iaload, 1) := by decide +kernel
theorem dX11_steps_16 : decode cX11_steps 16 = .ok (.istore_n 2, 1) := by decide +kernel
theorem dX11_steps_17 : decode cX11_steps 17 = .ok (.iload_n 2, 1) := by decide +kernel
theorem dX11_steps_18 : decode cX11_steps 18 = .ok (.bipush 60, 2) := by decide +kernel
theorem dX11_steps_20 : decode cX11_steps 20 = .ok (.if_icmp .ne 6, 3) := by decide +kernel
theorem dX11_steps_23 : decode cX11_steps 23 = .ok (.bipush (-3), 2) := by decide +kernel
theorem dX11_steps_25 : decode cX11_steps 25 = .ok (.ireturn, 1) := by decide +kernel
theorem dX11_steps_26 : decode cX11_steps 26 = .ok (.aload_n 0, 1) := by decide +kernel
theorem dX11_steps_27 : decode cX11_steps 27 = .ok (.invokevirtual 137, 3) := by decide +kernel
theorem dX11_steps_30 : decode cX11_steps 30 = .ok (.aload_n 0, 1) := by decide +kernel
theorem dX11_steps_31 : decode cX11_steps 31 = .ok (.iload_n 1, 1) := by decide +kernel
theorem dX11_steps_32 : decode cX11_steps 32 = .ok (.invokevirtual 143, 3) := by decide +kernel
theorem dX11_steps_35 : decode cX11_steps 35 = .ok (.aload_n 0, 1) := by decide +kernel
theorem dX11_steps_36 : decode cX11_steps 36 = .ok (.getfield 7, 3) := by decide +kernel
theorem dX11_steps_39 : decode cX11_steps 39 = .ok (.iconst 3, 1) := by decide +kernel
theorem dX11_steps_40 : decode cX11_steps 40 = .ok (.iaload, 1) := by decide +kernel
theorem dX11_steps_41 : decode cX11_steps 41 = .ok (.irem, 1) := by decide +kernel
theorem dX11_steps_42 : decode cX11_steps 42 = .ok (.istore_n 3, 1) := by decide +kernel
theorem dX11_steps_43 : decode cX11_steps 43 = .ok (.aload_n 0, 1) := by decide +kernel
theorem dX11_steps_44 : decode cX11_steps 44 = .ok (.getfield 16, 3) := by decide +kernel
theorem dX11_steps_47 : decode cX11_steps 47 = .ok (.bipush 7, 2) := by decide +kernel
theorem dX11_steps_49 : decode cX11_steps 49 = .ok (.iload_n 2, 1) := by decide +kernel
theorem dX11_steps_50 : decode cX11_steps 50 = .ok (.bipush 30, 2) := by decide +kernel
theorem dX11_steps_52 : decode cX11_steps 52 = .ok (.idiv, 1) := by decide +kernel
theorem dX11_steps_53 : decode cX11_steps 53 = .ok (.iadd, 1) := by decide +kernel
theorem dX11_steps_54 : decode cX11_steps 54 = .ok (.dup2, 1) := by decide +kernel
theorem dX11_steps_55 : decode cX11_steps 55 = .ok (.iaload, 1) := by decide +kernel
theorem dX11_steps_56 : decode cX11_steps 56 = .ok (.iload_n 1, 1) := by decide +kernel
theorem dX11_steps_57 : decode cX11_steps 57 = .ok (.iload_n 2, 1) := by decide +kernel
theorem dX11_steps_58 : decode cX11_steps 58 = .ok (.bipush 30, 2) := by decide +kernel
theorem dX11_steps_60 : decode cX11_steps 60 = .ok (.irem, 1) := by decide +kernel
theorem dX11_steps_61 : decode cX11_steps 61 = .ok (.ishl, 1) := by decide +kernel
theorem dX11_steps_62 : decode cX11_steps 62 = .ok (.ior, 1) := by decide +kernel
theorem dX11_steps_63 : decode cX11_steps 63 = .ok (.iastore, 1) := by decide +kernel
theorem dX11_steps_64 : decode cX11_steps 64 = .ok (.aload_n 0, 1) := by decide +kernel
theorem dX11_steps_65 : decode cX11_steps 65 = .ok (.getfield 16, 3) := by decide +kernel
theorem dX11_steps_68 : decode cX11_steps 68 = .ok (.bipush 6, 2) := by decide +kernel
theorem dX11_steps_70 : decode cX11_steps 70 = .ok (.dup2, 1) := by decide +kernel
theorem dX11_steps_71 : decode cX11_steps 71 = .ok (.iaload, 1) := by decide +kernel
theorem dX11_steps_72 : decode cX11_steps 72 = .ok (.iconst 1, 1) := by decide +kernel
theorem dX11_steps_73 : decode cX11_steps 73 = .ok (.iadd, 1) := by decide +kernel
theorem dX11_steps_74 : decode cX11_steps 74 = .ok (.iastore, 1) := by decide +kernel
theorem dX11_steps_75 : decode cX11_steps 75 = .ok (.aload_n 0, 1) := by decide +kernel
theorem dX11_steps_76 : decode cX11_steps 76 = .ok (.iload_n 1, 1) := by decide +kernel
theorem dX11_steps_77 : decode cX11_steps 77 = .ok (.iload_n 3, 1) := by decide +kernel
theorem dX11_steps_78 : decode cX11_steps 78 = .ok (.iconst (-1), 1) := by decide +kernel
theorem dX11_steps_79 : decode cX11_steps 79 = .ok (.invokevirtual 146, 3) := by decide +kernel
theorem dX11_steps_82 : decode cX11_steps 82 = .ok (.ireturn, 1) := by decide +kernel
theorem dX11_undo_0 : decode cX11_undo 0 = .ok (.aload_n 0, 1) := by decide +kernel
theorem dX11_undo_1 : decode cX11_undo 1 = .ok (.getfield 61, 3) := by decide +kernel
theorem dX11_undo_4 : decode cX11_undo 4 = .ok (.ifCond .ne 6, 3) := by decide +kernel
theorem dX11_undo_7 : decode cX11_undo 7 = .ok (.bipush (-2), 2) := by decide +kernel
theorem dX11_undo_9 : decode cX11_undo 9 = .ok (.ireturn, 1) := by decide +kernel
theorem dX11_undo_10 : decode cX11_undo 10 = .ok (.aload_n 0, 1) := by decide +kernel
theorem dX11_undo_11 : decode cX11_undo 11 = .ok (.dup, 1) := by decide +kernel
theorem dX11_undo_12 : decode cX11_undo 12 = .ok (.getfield 61, 3) := by decide +kernel
theorem dX11_undo_15 : decode cX11_undo 15 = .ok (.iconst 1, 1) := by decide +kernel
theorem dX11_undo_16 : decode cX11_undo 16 = .ok (.isub, 1) := by decide +kernel
theorem dX11_undo_17 : decode cX11_undo 17 = .ok (.putfield 61, 3) := by decide +kernel
theorem dX11_undo_20 : decode cX11_undo 20 = .ok (.aload_n 0, 1) := by decide +kernel
theorem dX11_undo_21 : decode cX11_undo 21 = .ok (.getfield 19, 3) := by decide +kernel
theorem dX11_undo_24 : decode cX11_undo 24 = .ok (.bipush 9, 2) := by decide +kernel
theorem dX11_undo_26 : decode cX11_undo 26 = .ok (.aload_n 0, 1) := by decide +kernel
theorem dX11_undo_27 : decode cX11_undo 27 = .ok (.getfield 61, 3) := by decide +kernel
theorem dX11_undo_30 : decode cX11_undo 30 = .ok (.imul, 1) := by decide +kernel
theorem dX11_undo_31 : decode cX11_undo 31 = .ok (.aload_n 0, 1) := by decide +kernel
theorem dX11_undo_32 : decode cX11_undo 32 = .ok (.getfield 16, 3) := by decide +kernel
theorem dX11_undo_35 : decode cX11_undo 35 = .ok (.iconst 0, 1) := by decide +kernel
theorem dX11_undo_36 : decode cX11_undo 36 = .ok (.invokestatic 133, 3) := by decide +kernel
theorem dX11_undo_39 : decode cX11_undo 39 = .ok (.aload_n 0, 1) := by decide +kernel
theorem dX11_undo_40 : decode cX11_undo 40 = .ok (.getfield 61, 3) := by decide +kernel
theorem dX11_undo_43 : decode cX11_undo 43 = .ok (.ireturn, 1) := by decide +kernel
theorem dX11_envyBy_0 : decode cX11_envyBy 0 = .ok (.aload_n 0, 1) := by decide +kernel
theorem dX11_envyBy_1 : decode cX11_envyBy 1 = .ok (.iload_n 1, 1) := by decide +kernel
theorem dX11_envyBy_2 : decode cX11_envyBy 2 = .ok (.iload_n 3, 1) := by decide +kernel
theorem dX11_envyBy_3 : decode cX11_envyBy 3 = .ok (.invokevirtual 125, 3) := by decide +kernel
theorem dX11_envyBy_6 : decode cX11_envyBy 6 = .ok (.aload_n 0, 1) := by decide +kernel
theorem dX11_envyBy_7 : decode cX11_envyBy 7 = .ok (.iload_n 1, 1) := by decide +kernel
theorem dX11_envyBy_8 : decode cX11_envyBy 8 = .ok (.iload_n 2, 1) := by decide +kernel
theorem dX11_envyBy_9 : decode cX11_envyBy 9 = .ok (.invokevirtual 125, 3) := by decide +kernel
theorem dX11_envyBy_12 : decode cX11_envyBy 12 = .ok (.isub, 1) := by decide +kernel
theorem dX11_envyBy_13 : decode cX11_envyBy 13 = .ok (.istore 4, 2) := by decide +kernel
theorem dX11_envyBy_15 : decode cX11_envyBy 15 = .ok (.iload 4, 2) := by decide +kernel
theorem dX11_envyBy_17 : decode cX11_envyBy 17 = .ok (.ifCond .le 8, 3) := by decide +kernel
theorem dX11_envyBy_20 : decode cX11_envyBy 20 = .ok (.iload 4, 2) := by decide +kernel
theorem dX11_envyBy_22 : decode cX11_envyBy 22 = .ok (.goto 4, 3) := by decide +kernel
theorem dX11_envyBy_25 : decode cX11_envyBy 25 = .ok (.iconst 0, 1) := by decide +kernel
theorem dX11_envyBy_26 : decode cX11_envyBy 26 = .ok (.ireturn, 1) := by decide +kernel
theorem dX11_envy_0 : decode cX11_envy 0 = .ok (.iload_n 1, 1) := by decide +kernel
theorem dX11_envy_1 : decode cX11_envy 1 = .ok (.invokestatic 119, 3) := by decide +kernel
theorem dX11_envy_4 : decode cX11_envy 4 = .ok (.ifCond .eq 23, 3) := by decide +kernel
theorem dX11_envy_7 : decode cX11_envy 7 = .ok (.aload_n 0, 1) := by decide +kernel
theorem dX11_envy_8 : decode cX11_envy 8 = .ok (.iload_n 1, 1) := by decide +kernel
theorem dX11_envy_9 : decode cX11_envy 9 = .ok (.aload_n 0, 1) := by decide +kernel
theorem dX11_envy_10 : decode cX11_envy 10 = .ok (.iload_n 1, 1) := by decide +kernel
theorem dX11_envy_11 : decode cX11_envy 11 = .ok (.invokevirtual 129, 3) := by decide +kernel
theorem dX11_envy_14 : decode cX11_envy 14 = .ok (.aload_n 0, 1) := by decide +kernel
theorem dX11_envy_15 : decode cX11_envy 15 = .ok (.iconst 1, 1) := by decide +kernel
theorem dX11_envy_16 : decode cX11_envy 16 = .ok (.iload_n 1, 1) := by decide +kernel
theorem dX11_envy_17 : decode cX11_envy 17 = .ok (.isub, 1) := by decide +kernel
theorem dX11_envy_18 : decode cX11_envy 18 = .ok (.invokevirtual 129, 3) := by decide +kernel
theorem dX11_envy_21 : decode cX11_envy 21 = .ok (.invokevirtual 150, 3) := by decide +kernel
theorem dX11_envy_24 : decode cX11_envy 24 = .ok (.goto 4, 3) := by decide +kernel
theorem dX11_envy_27 : decode cX11_envy 27 = .ok (.iconst (-1), 1) := by decide +kernel
theorem dX11_envy_28 : decode cX11_envy 28 = .ok (.ireturn, 1) := by decide +kernel
theorem dX11_isFair_0 : decode cX11_isFair 0 = .ok (.aload_n 0, 1) := by decide +kernel
theorem dX11_isFair_1 : decode cX11_isFair 1 = .ok (.invokevirtual 122, 3) := by decide +kernel
theorem dX11_isFair_4 : decode cX11_isFair 4 = .ok (.iload_n 1, 1) := by decide +kernel
theorem dX11_isFair_5 : decode cX11_isFair 5 = .ok (.iconst (-1), 1) := by decide +kernel
theorem dX11_isFair_6 : decode cX11_isFair 6 = .ok (.ixor, 1) := by decide +kernel
theorem dX11_isFair_7 : decode cX11_isFair 7 = .ok (.iand, 1) := by decide +kernel
theorem dX11_isFair_8 : decode cX11_isFair 8 = .ok (.istore_n 2, 1) := by decide +kernel
theorem dX11_isFair_9 : decode cX11_isFair 9 = .ok (.aload_n 0, 1) := by decide +kernel
theorem dX11_isFair_10 : decode cX11_isFair 10 = .ok (.iconst 0, 1) := by decide +kernel
theorem dX11_isFair_11 : decode cX11_isFair 11 = .ok (.iload_n 2, 1) := by decide +kernel
theorem dX11_isFair_12 : decode cX11_isFair 12 = .ok (.iload_n 1, 1) := by decide +kernel
theorem dX11_isFair_13 : decode cX11_isFair 13 = .ok (.invokevirtual 150, 3) := by decide +kernel
theorem dX11_isFair_16 : decode cX11_isFair 16 = .ok (.ifCond .ne 17, 3) := by decide +kernel
theorem dX11_isFair_19 : decode cX11_isFair 19 = .ok (.aload_n 0, 1) := by decide +kernel
theorem dX11_isFair_20 : decode cX11_isFair 20 = .ok (.iconst 1, 1) := by decide +kernel
theorem dX11_isFair_21 : decode cX11_isFair 21 = .ok (.iload_n 1, 1) := by decide +kernel
theorem dX11_isFair_22 : decode cX11_isFair 22 = .ok (.iload_n 2, 1) := by decide +kernel
theorem dX11_isFair_23 : decode cX11_isFair 23 = .ok (.invokevirtual 150, 3) := by decide +kernel
theorem dX11_isFair_26 : decode cX11_isFair 26 = .ok (.ifCond .ne 7, 3) := by decide +kernel
theorem dX11_isFair_29 : decode cX11_isFair 29 = .ok (.iconst 1, 1) := by decide +kernel
theorem dX11_isFair_30 : decode cX11_isFair 30 = .ok (.goto 4, 3) := by decide +kernel
theorem dX11_isFair_33 : decode cX11_isFair 33 = .ok (.iconst 0, 1) := by decide +kernel
theorem dX11_isFair_34 : decode cX11_isFair 34 = .ok (.ireturn, 1) := by decide +kernel
theorem dX11_together_0 : decode cX11_together 0 = .ok (.aload_n 0, 1) := by decide +kernel
theorem dX11_together_1 : decode cX11_together 1 = .ok (.iconst 0, 1) := by decide +kernel
theorem dX11_together_2 : decode cX11_together 2 = .ok (.aload_n 0, 1) := by decide +kernel
theorem dX11_together_3 : decode cX11_together 3 = .ok (.invokevirtual 122, 3) := by decide +kernel
theorem dX11_together_6 : decode cX11_together 6 = .ok (.iload_n 1, 1) := by decide +kernel
theorem dX11_together_7 : decode cX11_together 7 = .ok (.iconst (-1), 1) := by decide +kernel
theorem dX11_together_8 : decode cX11_together 8 = .ok (.ixor, 1) := by decide +kernel
theorem dX11_together_9 : decode cX11_together 9 = .ok (.iand, 1) := by decide +kernel
theorem dX11_together_10 : decode cX11_together 10 = .ok (.invokevirtual 125, 3) := by decide +kernel
theorem dX11_together_13 : decode cX11_together 13 = .ok (.aload_n 0, 1) := by decide +kernel
theorem dX11_together_14 : decode cX11_together 14 = .ok (.iconst 1, 1) := by decide +kernel
theorem dX11_together_15 : decode cX11_together 15 = .ok (.iload_n 1, 1) := by decide +kernel
theorem dX11_together_16 : decode cX11_together 16 = .ok (.invokevirtual 125, 3) := by decide +kernel
theorem dX11_together_19 : decode cX11_together 19 = .ok (.iadd, 1) := by decide +kernel
theorem dX11_together_20 : decode cX11_together 20 = .ok (.ireturn, 1) := by decide +kernel
theorem dX11_best_0 : decode cX11_best 0 = .ok (.bipush (-9), 2) := by decide +kernel
theorem dX11_best_2 : decode cX11_best 2 = .ok (.istore_n 2, 1) := by decide +kernel
theorem dX11_best_3 : decode cX11_best 3 = .ok (.iconst 0, 1) := by decide +kernel
theorem dX11_best_4 : decode cX11_best 4 = .ok (.istore_n 3, 1) := by decide +kernel
theorem dX11_best_5 : decode cX11_best 5 = .ok (.iload_n 3, 1) := by decide +kernel
theorem dX11_best_6 : decode cX11_best 6 = .ok (.aload_n 0, 1) := by decide +kernel
theorem dX11_best_7 : decode cX11_best 7 = .ok (.invokevirtual 122, 3) := by decide +kernel
theorem dX11_best_10 : decode cX11_best 10 = .ok (.if_icmp .gt 58, 3) := by decide +kernel
theorem dX11_best_13 : decode cX11_best 13 = .ok (.iload_n 1, 1) := by decide +kernel
theorem dX11_best_14 : decode cX11_best 14 = .ok (.ifCond .eq 11, 3) := by decide +kernel
theorem dX11_best_17 : decode cX11_best 17 = .ok (.aload_n 0, 1) := by decide +kernel
theorem dX11_best_18 : decode cX11_best 18 = .ok (.iload_n 3, 1) := by decide +kernel
theorem dX11_best_19 : decode cX11_best 19 = .ok (.invokevirtual 153, 3) := by decide +kernel
theorem dX11_best_22 : decode cX11_best 22 = .ok (.ifCond .eq 7, 3) := by decide +kernel
theorem dX11_best_25 : decode cX11_best 25 = .ok (.iconst 1, 1) := by decide +kernel
theorem dX11_best_26 : decode cX11_best 26 = .ok (.goto 4, 3) := by decide +kernel
theorem dX11_best_29 : decode cX11_best 29 = .ok (.iconst 0, 1) := by decide +kernel
theorem dX11_best_30 : decode cX11_best 30 = .ok (.istore 4, 2) := by decide +kernel
theorem dX11_best_32 : decode cX11_best 32 = .ok (.iload 4, 2) := by decide +kernel
theorem dX11_best_34 : decode cX11_best 34 = .ok (.ifCond .eq 26, 3) := by decide +kernel
theorem dX11_best_37 : decode cX11_best 37 = .ok (.iload_n 2, 1) := by decide +kernel
theorem dX11_best_38 : decode cX11_best 38 = .ok (.bipush (-9), 2) := by decide +kernel
theorem dX11_best_40 : decode cX11_best 40 = .ok (.if_icmp .eq 16, 3) := by decide +kernel
theorem dX11_best_43 : decode cX11_best 43 = .ok (.aload_n 0, 1) := by decide +kernel
theorem dX11_best_44 : decode cX11_best 44 = .ok (.iload_n 3, 1) := by decide +kernel
theorem dX11_best_45 : decode cX11_best 45 = .ok (.invokevirtual 156, 3) := by decide +kernel
theorem dX11_best_48 : decode cX11_best 48 = .ok (.aload_n 0, 1) := by decide +kernel
theorem dX11_best_49 : decode cX11_best 49 = .ok (.iload_n 2, 1) := by decide +kernel
theorem dX11_best_50 : decode cX11_best 50 = .ok (.invokevirtual 156, 3) := by decide +kernel
theorem dX11_best_53 : decode cX11_best 53 = .ok (.if_icmp .le 7, 3) := by decide +kernel
theorem dX11_best_56 : decode cX11_best 56 = .ok (.iload_n 3, 1) := by decide +kernel
theorem dX11_best_57 : decode cX11_best 57 = .ok (.goto 4, 3) := by decide +kernel
theorem dX11_best_60 : decode cX11_best 60 = .ok (.iload_n 2, 1) := by decide +kernel
theorem dX11_best_61 : decode cX11_best 61 = .ok (.istore_n 2, 1) := by decide +kernel
theorem dX11_best_62 : decode cX11_best 62 = .ok (.iinc 3 1, 3) := by decide +kernel
theorem dX11_best_65 : decode cX11_best 65 = .ok (.goto (-60), 3) := by decide +kernel
theorem dX11_best_68 : decode cX11_best 68 = .ok (.iload_n 2, 1) := by decide +kernel
theorem dX11_best_69 : decode cX11_best 69 = .ok (.ireturn, 1) := by decide +kernel
theorem dX11_fair_0 : decode cX11_fair 0 = .ok (.iload_n 1, 1) := by decide +kernel
theorem dX11_fair_1 : decode cX11_fair 1 = .ok (.i2l, 1) := by decide +kernel
theorem dX11_fair_2 : decode cX11_fair 2 = .ok (.lconst 0, 1) := by decide +kernel
theorem dX11_fair_3 : decode cX11_fair 3 = .ok (.ldc2_w 159, 3) := by decide +kernel
theorem dX11_fair_6 : decode cX11_fair 6 = .ok (.invokestatic 57, 3) := by decide +kernel
theorem dX11_fair_9 : decode cX11_fair 9 = .ok (.ifCond .ne 5, 3) := by decide +kernel
theorem dX11_fair_12 : decode cX11_fair 12 = .ok (.iconst (-1), 1) := by decide +kernel
theorem dX11_fair_13 : decode cX11_fair 13 = .ok (.ireturn, 1) := by decide +kernel
theorem dX11_fair_14 : decode cX11_fair 14 = .ok (.iload_n 1, 1) := by decide +kernel
theorem dX11_fair_15 : decode cX11_fair 15 = .ok (.ifCond .ne 39, 3) := by decide +kernel
theorem dX11_fair_18 : decode cX11_fair 18 = .ok (.iconst 0, 1) := by decide +kernel
theorem dX11_fair_19 : decode cX11_fair 19 = .ok (.istore_n 2, 1) := by decide +kernel
theorem dX11_fair_20 : decode cX11_fair 20 = .ok (.iconst 0, 1) := by decide +kernel
theorem dX11_fair_21 : decode cX11_fair 21 = .ok (.istore_n 3, 1) := by decide +kernel
theorem dX11_fair_22 : decode cX11_fair 22 = .ok (.iload_n 3, 1) := by decide +kernel
theorem dX11_fair_23 : decode cX11_fair 23 = .ok (.aload_n 0, 1) := by decide +kernel
theorem dX11_fair_24 : decode cX11_fair 24 = .ok (.invokevirtual 122, 3) := by decide +kernel
theorem dX11_fair_27 : decode cX11_fair 27 = .ok (.if_icmp .gt 25, 3) := by decide +kernel
theorem dX11_fair_30 : decode cX11_fair 30 = .ok (.iload_n 2, 1) := by decide +kernel
theorem dX11_fair_31 : decode cX11_fair 31 = .ok (.aload_n 0, 1) := by decide +kernel
theorem dX11_fair_32 : decode cX11_fair 32 = .ok (.iload_n 3, 1) := by decide +kernel
theorem dX11_fair_33 : decode cX11_fair 33 = .ok (.invokevirtual 153, 3) := by decide +kernel
theorem dX11_fair_36 : decode cX11_fair 36 = .ok (.ifCond .eq 7, 3) := by decide +kernel
theorem dX11_fair_39 : decode cX11_fair 39 = .ok (.iconst 1, 1) := by decide +kernel
theorem dX11_fair_40 : decode cX11_fair 40 = .ok (.goto 4, 3) := by decide +kernel
theorem dX11_fair_43 : decode cX11_fair 43 = .ok (.iconst 0, 1) := by decide +kernel
theorem dX11_fair_44 : decode cX11_fair 44 = .ok (.iadd, 1) := by decide +kernel
theorem dX11_fair_45 : decode cX11_fair 45 = .ok (.istore_n 2, 1) := by decide +kernel
theorem dX11_fair_46 : decode cX11_fair 46 = .ok (.iinc 3 1, 3) := by decide +kernel
theorem dX11_fair_49 : decode cX11_fair 49 = .ok (.goto (-27), 3) := by decide +kernel
theorem dX11_fair_52 : decode cX11_fair 52 = .ok (.iload_n 2, 1) := by decide +kernel
theorem dX11_fair_53 : decode cX11_fair 53 = .ok (.ireturn, 1) := by decide +kernel
theorem dX11_fair_54 : decode cX11_fair 54 = .ok (.aload_n 0, 1) := by decide +kernel
theorem dX11_fair_55 : decode cX11_fair 55 = .ok (.iconst 1, 1) := by decide +kernel
theorem dX11_fair_56 : decode cX11_fair 56 = .ok (.invokevirtual 161, 3) := by decide +kernel
theorem dX11_fair_59 : decode cX11_fair 59 = .ok (.istore_n 2, 1) := by decide +kernel
theorem dX11_fair_60 : decode cX11_fair 60 = .ok (.iload_n 2, 1) := by decide +kernel
theorem dX11_fair_61 : decode cX11_fair 61 = .ok (.bipush (-9), 2) := by decide +kernel
theorem dX11_fair_63 : decode cX11_fair 63 = .ok (.if_icmp .eq 8, 3) := by decide +kernel
theorem dX11_fair_66 : decode cX11_fair 66 = .ok (.iload_n 1, 1) := by decide +kernel
theorem dX11_fair_67 : decode cX11_fair 67 = .ok (.iconst 1, 1) := by decide +kernel
theorem dX11_fair_68 : decode cX11_fair 68 = .ok (.if_icmp .ne 5, 3) := by decide +kernel
theorem dX11_fair_71 : decode cX11_fair 71 = .ok (.iload_n 2, 1) := by decide +kernel
theorem dX11_fair_72 : decode cX11_fair 72 = .ok (.ireturn, 1) := by decide +kernel
theorem dX11_fair_73 : decode cX11_fair 73 = .ok (.iload_n 1, 1) := by decide +kernel
theorem dX11_fair_74 : decode cX11_fair 74 = .ok (.iconst 2, 1) := by decide +kernel
theorem dX11_fair_75 : decode cX11_fair 75 = .ok (.if_icmp .ne 11, 3) := by decide +kernel
theorem dX11_fair_78 : decode cX11_fair 78 = .ok (.aload_n 0, 1) := by decide +kernel
theorem dX11_fair_79 : decode cX11_fair 79 = .ok (.iload_n 2, 1) := by decide +kernel
theorem dX11_fair_80 : decode cX11_fair 80 = .ok (.invokevirtual 156, 3) := by decide +kernel
theorem dX11_fair_83 : decode cX11_fair 83 = .ok (.goto 18, 3) := by decide +kernel
theorem dX11_fair_86 : decode cX11_fair 86 = .ok (.aload_n 0, 1) := by decide +kernel
theorem dX11_fair_87 : decode cX11_fair 87 = .ok (.aload_n 0, 1) := by decide +kernel
theorem dX11_fair_88 : decode cX11_fair 88 = .ok (.iconst 0, 1) := by decide +kernel
theorem dX11_fair_89 : decode cX11_fair 89 = .ok (.invokevirtual 161, 3) := by decide +kernel
theorem dX11_fair_92 : decode cX11_fair 92 = .ok (.invokevirtual 156, 3) := by decide +kernel
theorem dX11_fair_95 : decode cX11_fair 95 = .ok (.aload_n 0, 1) := by decide +kernel
theorem dX11_fair_96 : decode cX11_fair 96 = .ok (.iload_n 2, 1) := by decide +kernel
theorem dX11_fair_97 : decode cX11_fair 97 = .ok (.invokevirtual 156, 3) := by decide +kernel
theorem dX11_fair_100 : decode cX11_fair 100 = .ok (.isub, 1) := by decide +kernel
theorem dX11_fair_101 : decode cX11_fair 101 = .ok (.ireturn, 1) := by decide +kernel
theorem dX11_cut_0 : decode cX11_cut 0 = .ok (.iload_n 1, 1) := by decide +kernel
theorem dX11_cut_1 : decode cX11_cut 1 = .ok (.invokestatic 119, 3) := by decide +kernel
theorem dX11_cut_4 : decode cX11_cut 4 = .ok (.ifCond .eq 10, 3) := by decide +kernel
theorem dX11_cut_7 : decode cX11_cut 7 = .ok (.iload_n 2, 1) := by decide +kernel
theorem dX11_cut_8 : decode cX11_cut 8 = .ok (.invokestatic 119, 3) := by decide +kernel
theorem dX11_cut_11 : decode cX11_cut 11 = .ok (.ifCond .ne 5, 3) := by decide +kernel
theorem dX11_cut_14 : decode cX11_cut 14 = .ok (.iconst (-1), 1) := by decide +kernel
theorem dX11_cut_15 : decode cX11_cut 15 = .ok (.ireturn, 1) := by decide +kernel
theorem dX11_cut_16 : decode cX11_cut 16 = .ok (.iconst 0, 1) := by decide +kernel
theorem dX11_cut_17 : decode cX11_cut 17 = .ok (.istore_n 3, 1) := by decide +kernel
theorem dX11_cut_18 : decode cX11_cut 18 = .ok (.iconst (-1), 1) := by decide +kernel
theorem dX11_cut_19 : decode cX11_cut 19 = .ok (.istore 4, 2) := by decide +kernel
theorem dX11_cut_21 : decode cX11_cut 21 = .ok (.iconst 0, 1) := by decide +kernel
theorem dX11_cut_22 : decode cX11_cut 22 = .ok (.istore 5, 2) := by decide +kernel
theorem dX11_cut_24 : decode cX11_cut 24 = .ok (.iload 5, 2) := by decide +kernel
theorem dX11_cut_26 : decode cX11_cut 26 = .ok (.aload_n 0, 1) := by decide +kernel
theorem dX11_cut_27 : decode cX11_cut 27 = .ok (.invokevirtual 122, 3) := by decide +kernel
theorem dX11_cut_30 : decode cX11_cut 30 = .ok (.if_icmp .gt 97, 3) := by decide +kernel
theorem dX11_cut_33 : decode cX11_cut 33 = .ok (.aload_n 0, 1) := by decide +kernel
theorem dX11_cut_34 : decode cX11_cut 34 = .ok (.invokevirtual 122, 3) := by decide +kernel
theorem dX11_cut_37 : decode cX11_cut 37 = .ok (.iload 5, 2) := by decide +kernel
theorem dX11_cut_39 : decode cX11_cut 39 = .ok (.iconst (-1), 1) := by decide +kernel
theorem dX11_cut_40 : decode cX11_cut 40 = .ok (.ixor, 1) := by decide +kernel
theorem dX11_cut_41 : decode cX11_cut 41 = .ok (.iand, 1) := by decide +kernel
theorem dX11_cut_42 : decode cX11_cut 42 = .ok (.istore 6, 2) := by decide +kernel
theorem dX11_cut_44 : decode cX11_cut 44 = .ok (.aload_n 0, 1) := by decide +kernel
theorem dX11_cut_45 : decode cX11_cut 45 = .ok (.iconst 1, 1) := by decide +kernel
theorem dX11_cut_46 : decode cX11_cut 46 = .ok (.iload_n 1, 1) := by decide +kernel
theorem dX11_cut_47 : decode cX11_cut 47 = .ok (.isub, 1) := by decide +kernel
theorem dX11_cut_48 : decode cX11_cut 48 = .ok (.iload 5, 2) := by decide +kernel
theorem dX11_cut_50 : decode cX11_cut 50 = .ok (.invokevirtual 125, 3) := by decide +kernel
theorem dX11_cut_53 : decode cX11_cut 53 = .ok (.aload_n 0, 1) := by decide +kernel
theorem dX11_cut_54 : decode cX11_cut 54 = .ok (.iconst 1, 1) := by decide +kernel
theorem dX11_cut_55 : decode cX11_cut 55 = .ok (.iload_n 1, 1) := by decide +kernel
theorem dX11_cut_56 : decode cX11_cut 56 = .ok (.isub, 1) := by decide +kernel
theorem dX11_cut_57 : decode cX11_cut 57 = .ok (.iload 6, 2) := by decide +kernel
theorem dX11_cut_59 : decode cX11_cut 59 = .ok (.invokevirtual 125, 3) := by decide +kernel
theorem dX11_cut_62 : decode cX11_cut 62 = .ok (.if_icmp .le 7, 3) := by decide +kernel
theorem dX11_cut_65 : decode cX11_cut 65 = .ok (.iconst 1, 1) := by decide +kernel
theorem dX11_cut_66 : decode cX11_cut 66 = .ok (.goto 4, 3) := by decide +kernel
theorem dX11_cut_69 : decode cX11_cut 69 = .ok (.iconst 0, 1) := by decide +kernel
theorem dX11_cut_70 : decode cX11_cut 70 = .ok (.istore 7, 2) := by decide +kernel
theorem dX11_cut_72 : decode cX11_cut 72 = .ok (.aload_n 0, 1) := by decide +kernel
theorem dX11_cut_73 : decode cX11_cut 73 = .ok (.iload_n 1, 1) := by decide +kernel
theorem dX11_cut_74 : decode cX11_cut 74 = .ok (.iload 7, 2) := by decide +kernel
theorem dX11_cut_76 : decode cX11_cut 76 = .ok (.ifCond .eq 8, 3) := by decide +kernel
theorem dX11_cut_79 : decode cX11_cut 79 = .ok (.iload 6, 2) := by decide +kernel
theorem dX11_cut_81 : decode cX11_cut 81 = .ok (.goto 5, 3) := by decide +kernel
theorem dX11_cut_84 : decode cX11_cut 84 = .ok (.iload 5, 2) := by decide +kernel
theorem dX11_cut_86 : decode cX11_cut 86 = .ok (.invokevirtual 125, 3) := by decide +kernel
theorem dX11_cut_89 : decode cX11_cut 89 = .ok (.istore 8, 2) := by decide +kernel
theorem dX11_cut_91 : decode cX11_cut 91 = .ok (.iload 8, 2) := by decide +kernel
theorem dX11_cut_93 : decode cX11_cut 93 = .ok (.iload 4, 2) := by decide +kernel
theorem dX11_cut_95 : decode cX11_cut 95 = .ok (.if_icmp .le 8, 3) := by decide +kernel
theorem dX11_cut_98 : decode cX11_cut 98 = .ok (.iload 5, 2) := by decide +kernel
theorem dX11_cut_100 : decode cX11_cut 100 = .ok (.goto 4, 3) := by decide +kernel
theorem dX11_cut_103 : decode cX11_cut 103 = .ok (.iload_n 3, 1) := by decide +kernel
theorem dX11_cut_104 : decode cX11_cut 104 = .ok (.istore_n 3, 1) := by decide +kernel
theorem dX11_cut_105 : decode cX11_cut 105 = .ok (.iload 8, 2) := by decide +kernel
theorem dX11_cut_107 : decode cX11_cut 107 = .ok (.iload 4, 2) := by decide +kernel
theorem dX11_cut_109 : decode cX11_cut 109 = .ok (.if_icmp .le 8, 3) := by decide +kernel
theorem dX11_cut_112 : decode cX11_cut 112 = .ok (.iload 8, 2) := by decide +kernel
theorem dX11_cut_114 : decode cX11_cut 114 = .ok (.goto 5, 3) := by decide +kernel
theorem dX11_cut_117 : decode cX11_cut 117 = .ok (.iload 4, 2) := by decide +kernel
theorem dX11_cut_119 : decode cX11_cut 119 = .ok (.istore 4, 2) := by decide +kernel
theorem dX11_cut_121 : decode cX11_cut 121 = .ok (.iinc 5 1, 3) := by decide +kernel
theorem dX11_cut_124 : decode cX11_cut 124 = .ok (.goto (-100), 3) := by decide +kernel
theorem dX11_cut_127 : decode cX11_cut 127 = .ok (.iload_n 2, 1) := by decide +kernel
theorem dX11_cut_128 : decode cX11_cut 128 = .ok (.ifCond .ne 8, 3) := by decide +kernel
theorem dX11_cut_131 : decode cX11_cut 131 = .ok (.iload 4, 2) := by decide +kernel
theorem dX11_cut_133 : decode cX11_cut 133 = .ok (.goto 4, 3) := by decide +kernel
theorem dX11_cut_136 : decode cX11_cut 136 = .ok (.iload_n 3, 1) := by decide +kernel
theorem dX11_cut_137 : decode cX11_cut 137 = .ok (.ireturn, 1) := by decide +kernel
theorem dX11_layTurns_0 : decode cX11_layTurns 0 = .ok (.aload_n 0, 1) := by decide +kernel
theorem dX11_layTurns_1 : decode cX11_layTurns 1 = .ok (.iconst 2, 1) := by decide +kernel
theorem dX11_layTurns_2 : decode cX11_layTurns 2 = .ok (.invokevirtual 129, 3) := by decide +kernel
theorem dX11_layTurns_5 : decode cX11_layTurns 5 = .ok (.istore_n 2, 1) := by decide +kernel
theorem dX11_layTurns_6 : decode cX11_layTurns 6 = .ok (.aload_n 0, 1) := by decide +kernel
theorem dX11_layTurns_7 : decode cX11_layTurns 7 = .ok (.iconst 0, 1) := by decide +kernel
theorem dX11_layTurns_8 : decode cX11_layTurns 8 = .ok (.invokevirtual 129, 3) := by decide +kernel
theorem dX11_layTurns_11 : decode cX11_layTurns 11 = .ok (.istore_n 3, 1) := by decide +kernel
theorem dX11_layTurns_12 : decode cX11_layTurns 12 = .ok (.aload_n 0, 1) := by decide +kernel
theorem dX11_layTurns_13 : decode cX11_layTurns 13 = .ok (.iconst 1, 1) := by decide +kernel
theorem dX11_layTurns_14 : decode cX11_layTurns 14 = .ok (.invokevirtual 129, 3) := by decide +kernel
theorem dX11_layTurns_17 : decode cX11_layTurns 17 = .ok (.istore 4, 2) := by decide +kernel
theorem dX11_layTurns_19 : decode cX11_layTurns 19 = .ok (.iload_n 2, 1) := by decide +kernel
theorem dX11_layTurns_20 : decode cX11_layTurns 20 = .ok (.istore 5, 2) := by decide +kernel
theorem dX11_layTurns_22 : decode cX11_layTurns 22 = .ok (.iload 5, 2) := by decide +kernel
theorem dX11_layTurns_24 : decode cX11_layTurns 24 = .ok (.ifCond .lt 177, 3) := by decide +kernel
theorem dX11_layTurns_27 : decode cX11_layTurns 27 = .ok (.iload_n 2, 1) := by decide +kernel
theorem dX11_layTurns_28 : decode cX11_layTurns 28 = .ok (.istore 6, 2) := by decide +kernel
theorem dX11_layTurns_30 : decode cX11_layTurns 30 = .ok (.iload 6, 2) := by decide +kernel
theorem dX11_layTurns_32 : decode cX11_layTurns 32 = .ok (.ifCond .lt 163, 3) := by decide +kernel
theorem dX11_layTurns_35 : decode cX11_layTurns 35 = .ok (.bipush 64, 2) := by decide +kernel
theorem dX11_layTurns_37 : decode cX11_layTurns 37 = .ok (.iload 5, 2) := by decide +kernel
theorem dX11_layTurns_39 : decode cX11_layTurns 39 = .ok (.imul, 1) := by decide +kernel
theorem dX11_layTurns_40 : decode cX11_layTurns 40 = .ok (.iload 6, 2) := by decide +kernel
theorem dX11_layTurns_42 : decode cX11_layTurns 42 = .ok (.iadd, 1) := by decide +kernel
theorem dX11_layTurns_43 : decode cX11_layTurns 43 = .ok (.istore 7, 2) := by decide +kernel
theorem dX11_layTurns_45 : decode cX11_layTurns 45 = .ok (.aload_n 0, 1) := by decide +kernel
theorem dX11_layTurns_46 : decode cX11_layTurns 46 = .ok (.getfield 41, 3) := by decide +kernel
theorem dX11_layTurns_49 : decode cX11_layTurns 49 = .ok (.iload 7, 2) := by decide +kernel
theorem dX11_layTurns_51 : decode cX11_layTurns 51 = .ok (.bipush (-9), 2) := by decide +kernel
theorem dX11_layTurns_53 : decode cX11_layTurns 53 = .ok (.iastore, 1) := by decide +kernel
theorem dX11_layTurns_54 : decode cX11_layTurns 54 = .ok (.iload 5, 2) := by decide +kernel
theorem dX11_layTurns_56 : decode cX11_layTurns 56 = .ok (.iload 6, 2) := by decide +kernel
theorem dX11_layTurns_58 : decode cX11_layTurns 58 = .ok (.ior, 1) := by decide +kernel
theorem dX11_layTurns_59 : decode cX11_layTurns 59 = .ok (.iload_n 2, 1) := by decide +kernel
theorem dX11_layTurns_60 : decode cX11_layTurns 60 = .ok (.iconst (-1), 1) := by decide +kernel
theorem dX11_layTurns_61 : decode cX11_layTurns 61 = .ok (.ixor, 1) := by decide +kernel
theorem dX11_layTurns_62 : decode cX11_layTurns 62 = .ok (.iand, 1) := by decide +kernel
theorem dX11_layTurns_63 : decode cX11_layTurns 63 = .ok (.ifCond .ne 126, 3) := by decide +kernel
theorem dX11_layTurns_66 : decode cX11_layTurns 66 = .ok (.iload 5, 2) := by decide +kernel
theorem dX11_layTurns_68 : decode cX11_layTurns 68 = .ok (.iload 6, 2) := by decide +kernel
theorem dX11_layTurns_70 : decode cX11_layTurns 70 = .ok (.iand, 1) := by decide +kernel
theorem dX11_layTurns_71 : decode cX11_layTurns 71 = .ok (.ifCond .ne 118, 3) := by decide +kernel
theorem dX11_layTurns_74 : decode cX11_layTurns 74 = .ok (.iload 5, 2) := by decide +kernel
theorem dX11_layTurns_76 : decode cX11_layTurns 76 = .ok (.iload 6, 2) := by decide +kernel
theorem dX11_layTurns_78 : decode cX11_layTurns 78 = .ok (.ior, 1) := by decide +kernel
theorem dX11_layTurns_79 : decode cX11_layTurns 79 = .ok (.invokestatic 165, 3) := by decide +kernel
theorem dX11_layTurns_82 : decode cX11_layTurns 82 = .ok (.iconst 2, 1) := by decide +kernel
theorem dX11_layTurns_83 : decode cX11_layTurns 83 = .ok (.irem, 1) := by decide +kernel
theorem dX11_layTurns_84 : decode cX11_layTurns 84 = .ok (.ifCond .ne 7, 3) := by decide +kernel
theorem dX11_layTurns_87 : decode cX11_layTurns 87 = .ok (.iload_n 1, 1) := by decide +kernel
theorem dX11_layTurns_88 : decode cX11_layTurns 88 = .ok (.goto 6, 3) := by decide +kernel
theorem dX11_layTurns_91 : decode cX11_layTurns 91 = .ok (.iconst 1, 1) := by decide +kernel
theorem dX11_layTurns_92 : decode cX11_layTurns 92 = .ok (.iload_n 1, 1) := by decide +kernel
theorem dX11_layTurns_93 : decode cX11_layTurns 93 = .ok (.isub, 1) := by decide +kernel
theorem dX11_layTurns_94 : decode cX11_layTurns 94 = .ok (.istore 8, 2) := by decide +kernel
theorem dX11_layTurns_96 : decode cX11_layTurns 96 = .ok (.aload_n 0, 1) := by decide +kernel
theorem dX11_layTurns_97 : decode cX11_layTurns 97 = .ok (.getfield 7, 3) := by decide +kernel
theorem dX11_layTurns_100 : decode cX11_layTurns 100 = .ok (.iconst 0, 1) := by decide +kernel
theorem dX11_layTurns_101 : decode cX11_layTurns 101 = .ok (.iaload, 1) := by decide +kernel
theorem dX11_layTurns_102 : decode cX11_layTurns 102 = .ok (.iconst 1, 1) := by decide +kernel
theorem dX11_layTurns_103 : decode cX11_layTurns 103 = .ok (.isub, 1) := by decide +kernel
theorem dX11_layTurns_104 : decode cX11_layTurns 104 = .ok (.istore 9, 2) := by decide +kernel
theorem dX11_layTurns_106 : decode cX11_layTurns 106 = .ok (.iload 9, 2) := by decide +kernel
theorem dX11_layTurns_108 : decode cX11_layTurns 108 = .ok (.ifCond .lt 36, 3) := by decide +kernel
theorem dX11_layTurns_111 : decode cX11_layTurns 111 = .ok (.iload_n 2, 1) := by decide +kernel
theorem dX11_layTurns_112 : decode cX11_layTurns 112 = .ok (.iload 5, 2) := by decide +kernel
theorem dX11_layTurns_114 : decode cX11_layTurns 114 = .ok (.iload 6, 2) := by decide +kernel
theorem dX11_layTurns_116 : decode cX11_layTurns 116 = .ok (.ior, 1) := by decide +kernel
theorem dX11_layTurns_117 : decode cX11_layTurns 117 = .ok (.iconst (-1), 1) := by decide +kernel
theorem dX11_layTurns_118 : decode cX11_layTurns 118 = .ok (.ixor, 1) := by decide +kernel
theorem dX11_layTurns_119 : decode cX11_layTurns 119 = .ok (.iand, 1) := by decide +kernel
theorem dX11_layTurns_120 : decode cX11_layTurns 120 = .ok (.iload 9, 2) := by decide +kernel
theorem dX11_layTurns_122 : decode cX11_layTurns 122 = .ok (.invokestatic 97, 3) := by decide +kernel
theorem dX11_layTurns_125 : decode cX11_layTurns 125 = .ok (.ifCond .eq 13, 3) := by decide +kernel
theorem dX11_layTurns_128 : decode cX11_layTurns 128 = .ok (.aload_n 0, 1) := by decide +kernel
theorem dX11_layTurns_129 : decode cX11_layTurns 129 = .ok (.iload 7, 2) := by decide +kernel
theorem dX11_layTurns_131 : decode cX11_layTurns 131 = .ok (.iload 8, 2) := by decide +kernel
theorem dX11_layTurns_133 : decode cX11_layTurns 133 = .ok (.iload 9, 2) := by decide +kernel
theorem dX11_layTurns_135 : decode cX11_layTurns 135 = .ok (.invokevirtual 168, 3) := by decide +kernel
theorem dX11_layTurns_138 : decode cX11_layTurns 138 = .ok (.iinc 9 (-1), 3) := by decide +kernel
theorem dX11_layTurns_141 : decode cX11_layTurns 141 = .ok (.goto (-35), 3) := by decide +kernel
theorem dX11_layTurns_144 : decode cX11_layTurns 144 = .ok (.aload_n 0, 1) := by decide +kernel
theorem dX11_layTurns_145 : decode cX11_layTurns 145 = .ok (.getfield 41, 3) := by decide +kernel
theorem dX11_layTurns_148 : decode cX11_layTurns 148 = .ok (.iload 7, 2) := by decide +kernel
theorem dX11_layTurns_150 : decode cX11_layTurns 150 = .ok (.iaload, 1) := by decide +kernel
theorem dX11_layTurns_151 : decode cX11_layTurns 151 = .ok (.bipush (-9), 2) := by decide +kernel
theorem dX11_layTurns_153 : decode cX11_layTurns 153 = .ok (.if_icmp .ne 36, 3) := by decide +kernel
theorem dX11_layTurns_156 : decode cX11_layTurns 156 = .ok (.aload_n 0, 1) := by decide +kernel
theorem dX11_layTurns_157 : decode cX11_layTurns 157 = .ok (.getfield 35, 3) := by decide +kernel
theorem dX11_layTurns_160 : decode cX11_layTurns 160 = .ok (.iload 7, 2) := by decide +kernel
theorem dX11_layTurns_162 : decode cX11_layTurns 162 = .ok (.aload_n 0, 1) := by decide +kernel
theorem dX11_layTurns_163 : decode cX11_layTurns 163 = .ok (.iconst 0, 1) := by decide +kernel
theorem dX11_layTurns_164 : decode cX11_layTurns 164 = .ok (.iload_n 3, 1) := by decide +kernel
theorem dX11_layTurns_165 : decode cX11_layTurns 165 = .ok (.iload 5, 2) := by decide +kernel
theorem dX11_layTurns_167 : decode cX11_layTurns 167 = .ok (.ior, 1) := by decide +kernel
theorem dX11_layTurns_168 : decode cX11_layTurns 168 = .ok (.invokevirtual 125, 3) := by decide +kernel
theorem dX11_layTurns_171 : decode cX11_layTurns 171 = .ok (.iastore, 1) := by decide +kernel
theorem dX11_layTurns_172 : decode cX11_layTurns 172 = .ok (.aload_n 0, 1) := by decide +kernel
theorem dX11_layTurns_173 : decode cX11_layTurns 173 = .ok (.getfield 38, 3) := by decide +kernel
theorem dX11_layTurns_176 : decode cX11_layTurns 176 = .ok (.iload 7, 2) := by decide +kernel
theorem dX11_layTurns_178 : decode cX11_layTurns 178 = .ok (.aload_n 0, 1) := by decide +kernel
theorem dX11_layTurns_179 : decode cX11_layTurns 179 = .ok (.iconst 1, 1) := by decide +kernel
theorem dX11_layTurns_180 : decode cX11_layTurns 180 = .ok (.iload 4, 2) := by decide +kernel
theorem dX11_layTurns_182 : decode cX11_layTurns 182 = .ok (.iload 6, 2) := by decide +kernel
theorem dX11_layTurns_184 : decode cX11_layTurns 184 = .ok (.ior, 1) := by decide +kernel
theorem dX11_layTurns_185 : decode cX11_layTurns 185 = .ok (.invokevirtual 125, 3) := by decide +kernel
theorem dX11_layTurns_188 : decode cX11_layTurns 188 = .ok (.iastore, 1) := by decide +kernel
theorem dX11_layTurns_189 : decode cX11_layTurns 189 = .ok (.iinc 6 (-1), 3) := by decide +kernel
theorem dX11_layTurns_192 : decode cX11_layTurns 192 = .ok (.goto (-162), 3) := by decide +kernel
theorem dX11_layTurns_195 : decode cX11_layTurns 195 = .ok (.iinc 5 (-1), 3) := by decide +kernel
theorem dX11_layTurns_198 : decode cX11_layTurns 198 = .ok (.goto (-176), 3) := by decide +kernel
theorem dX11_layTurns_201 : decode cX11_layTurns 201 = .ok (.return_, 1) := by decide +kernel
theorem dX11_layTake_0 : decode cX11_layTake 0 = .ok (.iload_n 1, 1) := by decide +kernel
theorem dX11_layTake_1 : decode cX11_layTake 1 = .ok (.iload_n 2, 1) := by decide +kernel
theorem dX11_layTake_2 : decode cX11_layTake 2 = .ok (.ifCond .ne 10, 3) := by decide +kernel
theorem dX11_layTake_5 : decode cX11_layTake 5 = .ok (.bipush 64, 2) := by decide +kernel
theorem dX11_layTake_7 : decode cX11_layTake 7 = .ok (.iload_n 3, 1) := by decide +kernel
theorem dX11_layTake_8 : decode cX11_layTake 8 = .ok (.ishl, 1) := by decide +kernel
theorem dX11_layTake_9 : decode cX11_layTake 9 = .ok (.goto 6, 3) := by decide +kernel
theorem dX11_layTake_12 : decode cX11_layTake 12 = .ok (.iconst 1, 1) := by decide +kernel
theorem dX11_layTake_13 : decode cX11_layTake 13 = .ok (.iload_n 3, 1) := by decide +kernel
theorem dX11_layTake_14 : decode cX11_layTake 14 = .ok (.ishl, 1) := by decide +kernel
theorem dX11_layTake_15 : decode cX11_layTake 15 = .ok (.iadd, 1) := by decide +kernel
theorem dX11_layTake_16 : decode cX11_layTake 16 = .ok (.istore 4, 2) := by decide +kernel
theorem dX11_layTake_18 : decode cX11_layTake 18 = .ok (.iload_n 2, 1) := by decide +kernel
theorem dX11_layTake_19 : decode cX11_layTake 19 = .ok (.ifCond .ne 13, 3) := by decide +kernel
theorem dX11_layTake_22 : decode cX11_layTake 22 = .ok (.aload_n 0, 1) := by decide +kernel
theorem dX11_layTake_23 : decode cX11_layTake 23 = .ok (.getfield 35, 3) := by decide +kernel
theorem dX11_layTake_26 : decode cX11_layTake 26 = .ok (.iload 4, 2) := by decide +kernel
theorem dX11_layTake_28 : decode cX11_layTake 28 = .ok (.iaload, 1) := by decide +kernel
theorem dX11_layTake_29 : decode cX11_layTake 29 = .ok (.goto 10, 3) := by decide +kernel
theorem dX11_layTake_32 : decode cX11_layTake 32 = .ok (.aload_n 0, 1) := by decide +kernel
theorem dX11_layTake_33 : decode cX11_layTake 33 = .ok (.getfield 38, 3) := by decide +kernel
theorem dX11_layTake_36 : decode cX11_layTake 36 = .ok (.iload 4, 2) := by decide +kernel
theorem dX11_layTake_38 : decode cX11_layTake 38 = .ok (.iaload, 1) := by decide +kernel
theorem dX11_layTake_39 : decode cX11_layTake 39 = .ok (.istore 5, 2) := by decide +kernel
theorem dX11_layTake_41 : decode cX11_layTake 41 = .ok (.iload_n 2, 1) := by decide +kernel
theorem dX11_layTake_42 : decode cX11_layTake 42 = .ok (.ifCond .ne 12, 3) := by decide +kernel
theorem dX11_layTake_45 : decode cX11_layTake 45 = .ok (.aload_n 0, 1) := by decide +kernel
theorem dX11_layTake_46 : decode cX11_layTake 46 = .ok (.getfield 35, 3) := by decide +kernel
theorem dX11_layTake_49 : decode cX11_layTake 49 = .ok (.iload_n 1, 1) := by decide +kernel
theorem dX11_layTake_50 : decode cX11_layTake 50 = .ok (.iaload, 1) := by decide +kernel
theorem dX11_layTake_51 : decode cX11_layTake 51 = .ok (.goto 9, 3) := by decide +kernel
theorem dX11_layTake_54 : decode cX11_layTake 54 = .ok (.aload_n 0, 1) := by decide +kernel
theorem dX11_layTake_55 : decode cX11_layTake 55 = .ok (.getfield 38, 3) := by decide +kernel
theorem dX11_layTake_58 : decode cX11_layTake 58 = .ok (.iload_n 1, 1) := by decide +kernel
theorem dX11_layTake_59 : decode cX11_layTake 59 = .ok (.iaload, 1) := by decide +kernel
theorem dX11_layTake_60 : decode cX11_layTake 60 = .ok (.istore 6, 2) := by decide +kernel
theorem dX11_layTake_62 : decode cX11_layTake 62 = .ok (.aload_n 0, 1) := by decide +kernel
theorem dX11_layTake_63 : decode cX11_layTake 63 = .ok (.getfield 41, 3) := by decide +kernel
theorem dX11_layTake_66 : decode cX11_layTake 66 = .ok (.iload_n 1, 1) := by decide +kernel
theorem dX11_layTake_67 : decode cX11_layTake 67 = .ok (.iaload, 1) := by decide +kernel
theorem dX11_layTake_68 : decode cX11_layTake 68 = .ok (.bipush (-9), 2) := by decide +kernel
theorem dX11_layTake_70 : decode cX11_layTake 70 = .ok (.if_icmp .eq 10, 3) := by decide +kernel
theorem dX11_layTake_73 : decode cX11_layTake 73 = .ok (.iload 5, 2) := by decide +kernel
theorem dX11_layTake_75 : decode cX11_layTake 75 = .ok (.iload 6, 2) := by decide +kernel
theorem dX11_layTake_77 : decode cX11_layTake 77 = .ok (.if_icmp .lt 36, 3) := by decide +kernel
theorem dX11_layTake_80 : decode cX11_layTake 80 = .ok (.aload_n 0, 1) := by decide +kernel
theorem dX11_layTake_81 : decode cX11_layTake 81 = .ok (.getfield 41, 3) := by decide +kernel
theorem dX11_layTake_84 : decode cX11_layTake 84 = .ok (.iload_n 1, 1) := by decide +kernel
theorem dX11_layTake_85 : decode cX11_layTake 85 = .ok (.iload_n 3, 1) := by decide +kernel
theorem dX11_layTake_86 : decode cX11_layTake 86 = .ok (.iastore, 1) := by decide +kernel
theorem dX11_layTake_87 : decode cX11_layTake 87 = .ok (.aload_n 0, 1) := by decide +kernel
theorem dX11_layTake_88 : decode cX11_layTake 88 = .ok (.getfield 35, 3) := by decide +kernel
theorem dX11_layTake_91 : decode cX11_layTake 91 = .ok (.iload_n 1, 1) := by decide +kernel
theorem dX11_layTake_92 : decode cX11_layTake 92 = .ok (.aload_n 0, 1) := by decide +kernel
theorem dX11_layTake_93 : decode cX11_layTake 93 = .ok (.getfield 35, 3) := by decide +kernel
theorem dX11_layTake_96 : decode cX11_layTake 96 = .ok (.iload 4, 2) := by decide +kernel
theorem dX11_layTake_98 : decode cX11_layTake 98 = .ok (.iaload, 1) := by decide +kernel
theorem dX11_layTake_99 : decode cX11_layTake 99 = .ok (.iastore, 1) := by decide +kernel
theorem dX11_layTake_100 : decode cX11_layTake 100 = .ok (.aload_n 0, 1) := by decide +kernel
theorem dX11_layTake_101 : decode cX11_layTake 101 = .ok (.getfield 38, 3) := by decide +kernel
theorem dX11_layTake_104 : decode cX11_layTake 104 = .ok (.iload_n 1, 1) := by decide +kernel
theorem dX11_layTake_105 : decode cX11_layTake 105 = .ok (.aload_n 0, 1) := by decide +kernel
theorem dX11_layTake_106 : decode cX11_layTake 106 = .ok (.getfield 38, 3) := by decide +kernel
theorem dX11_layTake_109 : decode cX11_layTake 109 = .ok (.iload 4, 2) := by decide +kernel
theorem dX11_layTake_111 : decode cX11_layTake 111 = .ok (.iaload, 1) := by decide +kernel
theorem dX11_layTake_112 : decode cX11_layTake 112 = .ok (.iastore, 1) := by decide +kernel
theorem dX11_layTake_113 : decode cX11_layTake 113 = .ok (.return_, 1) := by decide +kernel
theorem dX11_byTurns_0 : decode cX11_byTurns 0 = .ok (.iload_n 1, 1) := by decide +kernel
theorem dX11_byTurns_1 : decode cX11_byTurns 1 = .ok (.invokestatic 119, 3) := by decide +kernel
theorem dX11_byTurns_4 : decode cX11_byTurns 4 = .ok (.ifCond .eq 15, 3) := by decide +kernel
theorem dX11_byTurns_7 : decode cX11_byTurns 7 = .ok (.iload_n 2, 1) := by decide +kernel
theorem dX11_byTurns_8 : decode cX11_byTurns 8 = .ok (.i2l, 1) := by decide +kernel
theorem dX11_byTurns_9 : decode cX11_byTurns 9 = .ok (.lconst 0, 1) := by decide +kernel
theorem dX11_byTurns_10 : decode cX11_byTurns 10 = .ok (.ldc2_w 117, 3) := by decide +kernel
theorem dX11_byTurns_13 : decode cX11_byTurns 13 = .ok (.invokestatic 57, 3) := by decide +kernel
theorem dX11_byTurns_16 : decode cX11_byTurns 16 = .ok (.ifCond .ne 5, 3) := by decide +kernel
theorem dX11_byTurns_19 : decode cX11_byTurns 19 = .ok (.iconst (-1), 1) := by decide +kernel
theorem dX11_byTurns_20 : decode cX11_byTurns 20 = .ok (.ireturn, 1) := by decide +kernel
theorem dX11_byTurns_21 : decode cX11_byTurns 21 = .ok (.aload_n 0, 1) := by decide +kernel
theorem dX11_byTurns_22 : decode cX11_byTurns 22 = .ok (.iload_n 1, 1) := by decide +kernel
theorem dX11_byTurns_23 : decode cX11_byTurns 23 = .ok (.invokevirtual 172, 3) := by decide +kernel
theorem dX11_byTurns_26 : decode cX11_byTurns 26 = .ok (.iload_n 2, 1) := by decide +kernel
theorem dX11_byTurns_27 : decode cX11_byTurns 27 = .ok (.ifCond .ne 12, 3) := by decide +kernel
theorem dX11_byTurns_30 : decode cX11_byTurns 30 = .ok (.aload_n 0, 1) := by decide +kernel
theorem dX11_byTurns_31 : decode cX11_byTurns 31 = .ok (.getfield 35, 3) := by decide +kernel
theorem dX11_byTurns_34 : decode cX11_byTurns 34 = .ok (.iconst 0, 1) := by decide +kernel
theorem dX11_byTurns_35 : decode cX11_byTurns 35 = .ok (.iaload, 1) := by decide +kernel
theorem dX11_byTurns_36 : decode cX11_byTurns 36 = .ok (.goto 23, 3) := by decide +kernel
theorem dX11_byTurns_39 : decode cX11_byTurns 39 = .ok (.iload_n 2, 1) := by decide +kernel
theorem dX11_byTurns_40 : decode cX11_byTurns 40 = .ok (.iconst 1, 1) := by decide +kernel
theorem dX11_byTurns_41 : decode cX11_byTurns 41 = .ok (.if_icmp .ne 12, 3) := by decide +kernel
theorem dX11_byTurns_44 : decode cX11_byTurns 44 = .ok (.aload_n 0, 1) := by decide +kernel
theorem dX11_byTurns_45 : decode cX11_byTurns 45 = .ok (.getfield 38, 3) := by decide +kernel
theorem dX11_byTurns_48 : decode cX11_byTurns 48 = .ok (.iconst 0, 1) := by decide +kernel
theorem dX11_byTurns_49 : decode cX11_byTurns 49 = .ok (.iaload, 1) := by decide +kernel
theorem dX11_byTurns_50 : decode cX11_byTurns 50 = .ok (.goto 9, 3) := by decide +kernel
theorem dX11_byTurns_53 : decode cX11_byTurns 53 = .ok (.aload_n 0, 1) := by decide +kernel
theorem dX11_byTurns_54 : decode cX11_byTurns 54 = .ok (.getfield 41, 3) := by decide +kernel
theorem dX11_byTurns_57 : decode cX11_byTurns 57 = .ok (.iconst 0, 1) := by decide +kernel
theorem dX11_byTurns_58 : decode cX11_byTurns 58 = .ok (.iaload, 1) := by decide +kernel
theorem dX11_byTurns_59 : decode cX11_byTurns 59 = .ok (.ireturn, 1) := by decide +kernel
theorem dX11_gains_0 : decode cX11_gains 0 = .ok (.iconst 4, 1) := by decide +kernel
theorem dX11_gains_1 : decode cX11_gains 1 = .ok (.bipush 6, 2) := by decide +kernel
theorem dX11_gains_3 : decode cX11_gains 3 = .ok (.iload_n 1, 1) := by decide +kernel
theorem dX11_gains_4 : decode cX11_gains 4 = .ok (.imul, 1) := by decide +kernel
theorem dX11_gains_5 : decode cX11_gains 5 = .ok (.iadd, 1) := by decide +kernel
theorem dX11_gains_6 : decode cX11_gains 6 = .ok (.iload_n 2, 1) := by decide +kernel
theorem dX11_gains_7 : decode cX11_gains 7 = .ok (.iadd, 1) := by decide +kernel
theorem dX11_gains_8 : decode cX11_gains 8 = .ok (.istore 4, 2) := by decide +kernel
theorem dX11_gains_10 : decode cX11_gains 10 = .ok (.aload_n 0, 1) := by decide +kernel
theorem dX11_gains_11 : decode cX11_gains 11 = .ok (.getfield 7, 3) := by decide +kernel
theorem dX11_gains_14 : decode cX11_gains 14 = .ok (.iload 4, 2) := by decide +kernel
theorem dX11_gains_16 : decode cX11_gains 16 = .ok (.iaload, 1) := by decide +kernel
theorem dX11_gains_17 : decode cX11_gains 17 = .ok (.istore 5, 2) := by decide +kernel
theorem dX11_gains_19 : decode cX11_gains 19 = .ok (.aload_n 0, 1) := by decide +kernel
theorem dX11_gains_20 : decode cX11_gains 20 = .ok (.getfield 7, 3) := by decide +kernel
theorem dX11_gains_23 : decode cX11_gains 23 = .ok (.iload 4, 2) := by decide +kernel
theorem dX11_gains_25 : decode cX11_gains 25 = .ok (.iload_n 3, 1) := by decide +kernel
theorem dX11_gains_26 : decode cX11_gains 26 = .ok (.iastore, 1) := by decide +kernel
theorem dX11_gains_27 : decode cX11_gains 27 = .ok (.aload_n 0, 1) := by decide +kernel
theorem dX11_gains_28 : decode cX11_gains 28 = .ok (.iconst 1, 1) := by decide +kernel
theorem dX11_gains_29 : decode cX11_gains 29 = .ok (.invokevirtual 161, 3) := by decide +kernel
theorem dX11_gains_32 : decode cX11_gains 32 = .ok (.istore 6, 2) := by decide +kernel
theorem dX11_gains_34 : decode cX11_gains 34 = .ok (.aload_n 0, 1) := by decide +kernel
theorem dX11_gains_35 : decode cX11_gains 35 = .ok (.getfield 7, 3) := by decide +kernel
theorem dX11_gains_38 : decode cX11_gains 38 = .ok (.iload 4, 2) := by decide +kernel
theorem dX11_gains_40 : decode cX11_gains 40 = .ok (.iload 5, 2) := by decide +kernel
theorem dX11_gains_42 : decode cX11_gains 42 = .ok (.iastore, 1) := by decide +kernel
theorem dX11_gains_43 : decode cX11_gains 43 = .ok (.iload 6, 2) := by decide +kernel
theorem dX11_gains_45 : decode cX11_gains 45 = .ok (.bipush (-9), 2) := by decide +kernel
theorem dX11_gains_47 : decode cX11_gains 47 = .ok (.if_icmp .ne 7, 3) := by decide +kernel
theorem dX11_gains_50 : decode cX11_gains 50 = .ok (.iconst 0, 1) := by decide +kernel
theorem dX11_gains_51 : decode cX11_gains 51 = .ok (.goto 27, 3) := by decide +kernel
theorem dX11_gains_54 : decode cX11_gains 54 = .ok (.aload_n 0, 1) := by decide +kernel
theorem dX11_gains_55 : decode cX11_gains 55 = .ok (.iload_n 1, 1) := by decide +kernel
theorem dX11_gains_56 : decode cX11_gains 56 = .ok (.iload_n 1, 1) := by decide +kernel
theorem dX11_gains_57 : decode cX11_gains 57 = .ok (.iconst 1, 1) := by decide +kernel
theorem dX11_gains_58 : decode cX11_gains 58 = .ok (.if_icmp .ne 8, 3) := by decide +kernel
theorem dX11_gains_61 : decode cX11_gains 61 = .ok (.iload 6, 2) := by decide +kernel
theorem dX11_gains_63 : decode cX11_gains 63 = .ok (.goto 12, 3) := by decide +kernel
theorem dX11_gains_66 : decode cX11_gains 66 = .ok (.aload_n 0, 1) := by decide +kernel
theorem dX11_gains_67 : decode cX11_gains 67 = .ok (.invokevirtual 122, 3) := by decide +kernel
theorem dX11_gains_70 : decode cX11_gains 70 = .ok (.iload 6, 2) := by decide +kernel
theorem dX11_gains_72 : decode cX11_gains 72 = .ok (.iconst (-1), 1) := by decide +kernel
theorem dX11_gains_73 : decode cX11_gains 73 = .ok (.ixor, 1) := by decide +kernel
theorem dX11_gains_74 : decode cX11_gains 74 = .ok (.iand, 1) := by decide +kernel
theorem dX11_gains_75 : decode cX11_gains 75 = .ok (.invokevirtual 125, 3) := by decide +kernel
theorem dX11_gains_78 : decode cX11_gains 78 = .ok (.ireturn, 1) := by decide +kernel
theorem dX11_lies_0 : decode cX11_lies 0 = .ok (.iload_n 1, 1) := by decide +kernel
theorem dX11_lies_1 : decode cX11_lies 1 = .ok (.invokestatic 119, 3) := by decide +kernel
theorem dX11_lies_4 : decode cX11_lies 4 = .ok (.ifCond .eq 10, 3) := by decide +kernel
theorem dX11_lies_7 : decode cX11_lies 7 = .ok (.iload_n 2, 1) := by decide +kernel
theorem dX11_lies_8 : decode cX11_lies 8 = .ok (.invokestatic 119, 3) := by decide +kernel
theorem dX11_lies_11 : decode cX11_lies 11 = .ok (.ifCond .ne 5, 3) := by decide +kernel
theorem dX11_lies_14 : decode cX11_lies 14 = .ok (.iconst (-1), 1) := by decide +kernel
theorem dX11_lies_15 : decode cX11_lies 15 = .ok (.ireturn, 1) := by decide +kernel
theorem dX11_lies_16 : decode cX11_lies 16 = .ok (.aload_n 0, 1) := by decide +kernel
theorem dX11_lies_17 : decode cX11_lies 17 = .ok (.getfield 7, 3) := by decide +kernel
theorem dX11_lies_20 : decode cX11_lies 20 = .ok (.iconst 0, 1) := by decide +kernel
theorem dX11_lies_21 : decode cX11_lies 21 = .ok (.iaload, 1) := by decide +kernel
theorem dX11_lies_22 : decode cX11_lies 22 = .ok (.ifCond .ne 7, 3) := by decide +kernel
theorem dX11_lies_25 : decode cX11_lies 25 = .ok (.iconst 0, 1) := by decide +kernel
theorem dX11_lies_26 : decode cX11_lies 26 = .ok (.goto 20, 3) := by decide +kernel
theorem dX11_lies_29 : decode cX11_lies 29 = .ok (.aload_n 0, 1) := by decide +kernel
theorem dX11_lies_30 : decode cX11_lies 30 = .ok (.iload_n 1, 1) := by decide +kernel
theorem dX11_lies_31 : decode cX11_lies 31 = .ok (.iconst 0, 1) := by decide +kernel
theorem dX11_lies_32 : decode cX11_lies 32 = .ok (.aload_n 0, 1) := by decide +kernel
theorem dX11_lies_33 : decode cX11_lies 33 = .ok (.getfield 7, 3) := by decide +kernel
theorem dX11_lies_36 : decode cX11_lies 36 = .ok (.iconst 4, 1) := by decide +kernel
theorem dX11_lies_37 : decode cX11_lies 37 = .ok (.bipush 6, 2) := by decide +kernel
theorem dX11_lies_39 : decode cX11_lies 39 = .ok (.iload_n 1, 1) := by decide +kernel
theorem dX11_lies_40 : decode cX11_lies 40 = .ok (.imul, 1) := by decide +kernel
theorem dX11_lies_41 : decode cX11_lies 41 = .ok (.iadd, 1) := by decide +kernel
theorem dX11_lies_42 : decode cX11_lies 42 = .ok (.iaload, 1) := by decide +kernel
theorem dX11_lies_43 : decode cX11_lies 43 = .ok (.invokevirtual 176, 3) := by decide +kernel
theorem dX11_lies_46 : decode cX11_lies 46 = .ok (.istore_n 3, 1) := by decide +kernel
theorem dX11_lies_47 : decode cX11_lies 47 = .ok (.iconst 0, 1) := by decide +kernel
theorem dX11_lies_48 : decode cX11_lies 48 = .ok (.istore 4, 2) := by decide +kernel
theorem dX11_lies_50 : decode cX11_lies 50 = .ok (.bipush (-9), 2) := by decide +kernel
theorem dX11_lies_52 : decode cX11_lies 52 = .ok (.istore 5, 2) := by decide +kernel
theorem dX11_lies_54 : decode cX11_lies 54 = .ok (.iconst 0, 1) := by decide +kernel
theorem dX11_lies_55 : decode cX11_lies 55 = .ok (.istore 6, 2) := by decide +kernel
theorem dX11_lies_57 : decode cX11_lies 57 = .ok (.iload 6, 2) := by decide +kernel
theorem dX11_lies_59 : decode cX11_lies 59 = .ok (.aload_n 0, 1) := by decide +kernel
theorem dX11_lies_60 : decode cX11_lies 60 = .ok (.getfield 7, 3) := by decide +kernel
theorem dX11_lies_63 : decode cX11_lies 63 = .ok (.iconst 0, 1) := by decide +kernel
theorem dX11_lies_64 : decode cX11_lies 64 = .ok (.iaload, 1) := by decide +kernel
theorem dX11_lies_65 : decode cX11_lies 65 = .ok (.if_icmp .ge 76, 3) := by decide +kernel
theorem dX11_lies_68 : decode cX11_lies 68 = .ok (.iconst 0, 1) := by decide +kernel
theorem dX11_lies_69 : decode cX11_lies 69 = .ok (.istore 7, 2) := by decide +kernel
theorem dX11_lies_71 : decode cX11_lies 71 = .ok (.iload 7, 2) := by decide +kernel
theorem dX11_lies_73 : decode cX11_lies 73 = .ok (.bipush 20, 2) := by decide +kernel
theorem dX11_lies_75 : decode cX11_lies 75 = .ok (.if_icmp .gt 60, 3) := by decide +kernel
theorem dX11_lies_78 : decode cX11_lies 78 = .ok (.aload_n 0, 1) := by decide +kernel
theorem dX11_lies_79 : decode cX11_lies 79 = .ok (.iload_n 1, 1) := by decide +kernel
theorem dX11_lies_80 : decode cX11_lies 80 = .ok (.iload 6, 2) := by decide +kernel
theorem dX11_lies_82 : decode cX11_lies 82 = .ok (.iload 7, 2) := by decide +kernel
theorem dX11_lies_84 : decode cX11_lies 84 = .ok (.invokevirtual 176, 3) := by decide +kernel
theorem dX11_lies_87 : decode cX11_lies 87 = .ok (.iload_n 3, 1) := by decide +kernel
theorem dX11_lies_88 : decode cX11_lies 88 = .ok (.isub, 1) := by decide +kernel
theorem dX11_lies_89 : decode cX11_lies 89 = .ok (.istore 8, 2) := by decide +kernel
theorem dX11_lies_91 : decode cX11_lies 91 = .ok (.iload 8, 2) := by decide +kernel
theorem dX11_lies_93 : decode cX11_lies 93 = .ok (.iload 4, 2) := by decide +kernel
theorem dX11_lies_95 : decode cX11_lies 95 = .ok (.if_icmp .le 14, 3) := by decide +kernel
theorem dX11_lies_98 : decode cX11_lies 98 = .ok (.bipush 100, 2) := by decide +kernel
theorem dX11_lies_100 : decode cX11_lies 100 = .ok (.iload 6, 2) := by decide +kernel
theorem dX11_lies_102 : decode cX11_lies 102 = .ok (.imul, 1) := by decide +kernel
theorem dX11_lies_103 : decode cX11_lies 103 = .ok (.iload 7, 2) := by decide +kernel
theorem dX11_lies_105 : decode cX11_lies 105 = .ok (.iadd, 1) := by decide +kernel
theorem dX11_lies_106 : decode cX11_lies 106 = .ok (.goto 5, 3) := by decide +kernel
theorem dX11_lies_109 : decode cX11_lies 109 = .ok (.iload 5, 2) := by decide +kernel
theorem dX11_lies_111 : decode cX11_lies 111 = .ok (.istore 5, 2) := by decide +kernel
theorem dX11_lies_113 : decode cX11_lies 113 = .ok (.iload 8, 2) := by decide +kernel
theorem dX11_lies_115 : decode cX11_lies 115 = .ok (.iload 4, 2) := by decide +kernel
theorem dX11_lies_117 : decode cX11_lies 117 = .ok (.if_icmp .le 8, 3) := by decide +kernel
theorem dX11_lies_120 : decode cX11_lies 120 = .ok (.iload 8, 2) := by decide +kernel
theorem dX11_lies_122 : decode cX11_lies 122 = .ok (.goto 5, 3) := by decide +kernel
theorem dX11_lies_125 : decode cX11_lies 125 = .ok (.iload 4, 2) := by decide +kernel
theorem dX11_lies_127 : decode cX11_lies 127 = .ok (.istore 4, 2) := by decide +kernel
theorem dX11_lies_129 : decode cX11_lies 129 = .ok (.iinc 7 1, 3) := by decide +kernel
theorem dX11_lies_132 : decode cX11_lies 132 = .ok (.goto (-61), 3) := by decide +kernel
theorem dX11_lies_135 : decode cX11_lies 135 = .ok (.iinc 6 1, 3) := by decide +kernel
theorem dX11_lies_138 : decode cX11_lies 138 = .ok (.goto (-81), 3) := by decide +kernel
theorem dX11_lies_141 : decode cX11_lies 141 = .ok (.iload_n 2, 1) := by decide +kernel
theorem dX11_lies_142 : decode cX11_lies 142 = .ok (.ifCond .ne 8, 3) := by decide +kernel
theorem dX11_lies_145 : decode cX11_lies 145 = .ok (.iload 4, 2) := by decide +kernel
theorem dX11_lies_147 : decode cX11_lies 147 = .ok (.goto 5, 3) := by decide +kernel
theorem dX11_lies_150 : decode cX11_lies 150 = .ok (.iload 5, 2) := by decide +kernel
theorem dX11_lies_152 : decode cX11_lies 152 = .ok (.ireturn, 1) := by decide +kernel
theorem dX11_sell_0 : decode cX11_sell 0 = .ok (.iload_n 1, 1) := by decide +kernel
theorem dX11_sell_1 : decode cX11_sell 1 = .ok (.i2l, 1) := by decide +kernel
theorem dX11_sell_2 : decode cX11_sell 2 = .ok (.lconst 0, 1) := by decide +kernel
theorem dX11_sell_3 : decode cX11_sell 3 = .ok (.ldc2_w 179, 3) := by decide +kernel
theorem dX11_sell_6 : decode cX11_sell 6 = .ok (.invokestatic 57, 3) := by decide +kernel
theorem dX11_sell_9 : decode cX11_sell 9 = .ok (.ifCond .ne 5, 3) := by decide +kernel
theorem dX11_sell_12 : decode cX11_sell 12 = .ok (.iconst (-1), 1) := by decide +kernel
theorem dX11_sell_13 : decode cX11_sell 13 = .ok (.ireturn, 1) := by decide +kernel
theorem dX11_sell_14 : decode cX11_sell 14 = .ok (.iconst 0, 1) := by decide +kernel
theorem dX11_sell_15 : decode cX11_sell 15 = .ok (.istore_n 2, 1) := by decide +kernel
theorem dX11_sell_16 : decode cX11_sell 16 = .ok (.iconst 0, 1) := by decide +kernel
theorem dX11_sell_17 : decode cX11_sell 17 = .ok (.istore_n 3, 1) := by decide +kernel
theorem dX11_sell_18 : decode cX11_sell 18 = .ok (.iload_n 3, 1) := by decide +kernel
theorem dX11_sell_19 : decode cX11_sell 19 = .ok (.aload_n 0, 1) := by decide +kernel
theorem dX11_sell_20 : decode cX11_sell 20 = .ok (.invokevirtual 122, 3) := by decide +kernel
theorem dX11_sell_23 : decode cX11_sell 23 = .ok (.if_icmp .gt 68, 3) := by decide +kernel
theorem dX11_sell_26 : decode cX11_sell 26 = .ok (.iload_n 1, 1) := by decide +kernel
theorem dX11_sell_27 : decode cX11_sell 27 = .ok (.iload_n 3, 1) := by decide +kernel
theorem dX11_sell_28 : decode cX11_sell 28 = .ok (.invokestatic 165, 3) := by decide +kernel
theorem dX11_sell_31 : decode cX11_sell 31 = .ok (.imul, 1) := by decide +kernel
theorem dX11_sell_32 : decode cX11_sell 32 = .ok (.istore 4, 2) := by decide +kernel
theorem dX11_sell_34 : decode cX11_sell 34 = .ok (.aload_n 0, 1) := by decide +kernel
theorem dX11_sell_35 : decode cX11_sell 35 = .ok (.iconst 0, 1) := by decide +kernel
theorem dX11_sell_36 : decode cX11_sell 36 = .ok (.iload_n 3, 1) := by decide +kernel
theorem dX11_sell_37 : decode cX11_sell 37 = .ok (.invokevirtual 125, 3) := by decide +kernel
theorem dX11_sell_40 : decode cX11_sell 40 = .ok (.iload 4, 2) := by decide +kernel
theorem dX11_sell_42 : decode cX11_sell 42 = .ok (.if_icmp .gt 18, 3) := by decide +kernel
theorem dX11_sell_45 : decode cX11_sell 45 = .ok (.aload_n 0, 1) := by decide +kernel
theorem dX11_sell_46 : decode cX11_sell 46 = .ok (.iconst 1, 1) := by decide +kernel
theorem dX11_sell_47 : decode cX11_sell 47 = .ok (.iload_n 3, 1) := by decide +kernel
theorem dX11_sell_48 : decode cX11_sell 48 = .ok (.invokevirtual 125, 3) := by decide +kernel
theorem dX11_sell_51 : decode cX11_sell 51 = .ok (.iload 4, 2) := by decide +kernel
theorem dX11_sell_53 : decode cX11_sell 53 = .ok (.if_icmp .gt 7, 3) := by decide +kernel
theorem dX11_sell_56 : decode cX11_sell 56 = .ok (.iconst 1, 1) := by decide +kernel
theorem dX11_sell_57 : decode cX11_sell 57 = .ok (.goto 4, 3) := by decide +kernel
theorem dX11_sell_60 : decode cX11_sell 60 = .ok (.iconst 0, 1) := by decide +kernel
theorem dX11_sell_61 : decode cX11_sell 61 = .ok (.istore 5, 2) := by decide +kernel
theorem dX11_sell_63 : decode cX11_sell 63 = .ok (.iload 5, 2) := by decide +kernel
theorem dX11_sell_65 : decode cX11_sell 65 = .ok (.ifCond .eq 18, 3) := by decide +kernel
theorem dX11_sell_68 : decode cX11_sell 68 = .ok (.iload_n 3, 1) := by decide +kernel
theorem dX11_sell_69 : decode cX11_sell 69 = .ok (.invokestatic 165, 3) := by decide +kernel
theorem dX11_sell_72 : decode cX11_sell 72 = .ok (.iload_n 2, 1) := by decide +kernel
theorem dX11_sell_73 : decode cX11_sell 73 = .ok (.invokestatic 165, 3) := by decide +kernel
theorem dX11_sell_76 : decode cX11_sell 76 = .ok (.if_icmp .le 7, 3) := by decide +kernel
theorem dX11_sell_79 : decode cX11_sell 79 = .ok (.iload_n 3, 1) := by decide +kernel
theorem dX11_sell_80 : decode cX11_sell 80 = .ok (.goto 4, 3) := by decide +kernel
theorem dX11_sell_83 : decode cX11_sell 83 = .ok (.iload_n 2, 1) := by decide +kernel
theorem dX11_sell_84 : decode cX11_sell 84 = .ok (.istore_n 2, 1) := by decide +kernel
theorem dX11_sell_85 : decode cX11_sell 85 = .ok (.iinc 3 1, 3) := by decide +kernel
theorem dX11_sell_88 : decode cX11_sell 88 = .ok (.goto (-70), 3) := by decide +kernel
theorem dX11_sell_91 : decode cX11_sell 91 = .ok (.iload_n 2, 1) := by decide +kernel
theorem dX11_sell_92 : decode cX11_sell 92 = .ok (.ireturn, 1) := by decide +kernel
theorem dX11_adds_0 : decode cX11_adds 0 = .ok (.iload_n 1, 1) := by decide +kernel
theorem dX11_adds_1 : decode cX11_adds 1 = .ok (.invokestatic 119, 3) := by decide +kernel
theorem dX11_adds_4 : decode cX11_adds 4 = .ok (.ifCond .ne 5, 3) := by decide +kernel
theorem dX11_adds_7 : decode cX11_adds 7 = .ok (.iconst (-1), 1) := by decide +kernel
theorem dX11_adds_8 : decode cX11_adds 8 = .ok (.ireturn, 1) := by decide +kernel
theorem dX11_adds_9 : decode cX11_adds 9 = .ok (.iconst 0, 1) := by decide +kernel
theorem dX11_adds_10 : decode cX11_adds 10 = .ok (.istore_n 2, 1) := by decide +kernel
theorem dX11_adds_11 : decode cX11_adds 11 = .ok (.iconst 0, 1) := by decide +kernel
theorem dX11_adds_12 : decode cX11_adds 12 = .ok (.istore_n 3, 1) := by decide +kernel
theorem dX11_adds_13 : decode cX11_adds 13 = .ok (.iload_n 3, 1) := by decide +kernel
theorem dX11_adds_14 : decode cX11_adds 14 = .ok (.aload_n 0, 1) := by decide +kernel
theorem dX11_adds_15 : decode cX11_adds 15 = .ok (.getfield 7, 3) := by decide +kernel
theorem dX11_adds_18 : decode cX11_adds 18 = .ok (.iconst 0, 1) := by decide +kernel
theorem dX11_adds_19 : decode cX11_adds 19 = .ok (.iaload, 1) := by decide +kernel
theorem dX11_adds_20 : decode cX11_adds 20 = .ok (.if_icmp .ge 25, 3) := by decide +kernel
theorem dX11_adds_23 : decode cX11_adds 23 = .ok (.iload_n 2, 1) := by decide +kernel
theorem dX11_adds_24 : decode cX11_adds 24 = .ok (.aload_n 0, 1) := by decide +kernel
theorem dX11_adds_25 : decode cX11_adds 25 = .ok (.getfield 7, 3) := by decide +kernel
theorem dX11_adds_28 : decode cX11_adds 28 = .ok (.iconst 4, 1) := by decide +kernel
theorem dX11_adds_29 : decode cX11_adds 29 = .ok (.bipush 6, 2) := by decide +kernel
theorem dX11_adds_31 : decode cX11_adds 31 = .ok (.iload_n 1, 1) := by decide +kernel
theorem dX11_adds_32 : decode cX11_adds 32 = .ok (.imul, 1) := by decide +kernel
theorem dX11_adds_33 : decode cX11_adds 33 = .ok (.iadd, 1) := by decide +kernel
theorem dX11_adds_34 : decode cX11_adds 34 = .ok (.iload_n 3, 1) := by decide +kernel
theorem dX11_adds_35 : decode cX11_adds 35 = .ok (.iadd, 1) := by decide +kernel
theorem dX11_adds_36 : decode cX11_adds 36 = .ok (.iaload, 1) := by decide +kernel
theorem dX11_adds_37 : decode cX11_adds 37 = .ok (.iadd, 1) := by decide +kernel
theorem dX11_adds_38 : decode cX11_adds 38 = .ok (.istore_n 2, 1) := by decide +kernel
theorem dX11_adds_39 : decode cX11_adds 39 = .ok (.iinc 3 1, 3) := by decide +kernel
theorem dX11_adds_42 : decode cX11_adds 42 = .ok (.goto (-29), 3) := by decide +kernel
theorem dX11_adds_45 : decode cX11_adds 45 = .ok (.aload_n 0, 1) := by decide +kernel
theorem dX11_adds_46 : decode cX11_adds 46 = .ok (.iload_n 1, 1) := by decide +kernel
theorem dX11_adds_47 : decode cX11_adds 47 = .ok (.aload_n 0, 1) := by decide +kernel
theorem dX11_adds_48 : decode cX11_adds 48 = .ok (.invokevirtual 122, 3) := by decide +kernel
theorem dX11_adds_51 : decode cX11_adds 51 = .ok (.invokevirtual 125, 3) := by decide +kernel
theorem dX11_adds_54 : decode cX11_adds 54 = .ok (.iload_n 2, 1) := by decide +kernel
theorem dX11_adds_55 : decode cX11_adds 55 = .ok (.if_icmp .gt 7, 3) := by decide +kernel
theorem dX11_adds_58 : decode cX11_adds 58 = .ok (.iconst 1, 1) := by decide +kernel
theorem dX11_adds_59 : decode cX11_adds 59 = .ok (.goto 4, 3) := by decide +kernel
theorem dX11_adds_62 : decode cX11_adds 62 = .ok (.iconst 0, 1) := by decide +kernel
theorem dX11_adds_63 : decode cX11_adds 63 = .ok (.ireturn, 1) := by decide +kernel
