/-! decode rows -/
theorem dX4_init_0 : decode cX4_init 0 = .ok (.aload_n 0, 1) := by decide +kernel
theorem dX4_init_1 : decode cX4_init 1 = .ok (.invokespecial 1, 3) := by decide +kernel
theorem dX4_init_4 : decode cX4_init 4 = .ok (.aload_n 0, 1) := by decide +kernel
theorem dX4_init_5 : decode cX4_init 5 = .ok (.sipush 256, 3) := by decide +kernel
theorem dX4_init_8 : decode cX4_init 8 = .ok (.newarray .int, 2) := by decide +kernel
theorem dX4_init_10 : decode cX4_init 10 = .ok (.putfield 7, 3) := by decide +kernel
theorem dX4_init_13 : decode cX4_init 13 = .ok (.aload_n 0, 1) := by decide +kernel
theorem dX4_init_14 : decode cX4_init 14 = .ok (.iconst 3, 1) := by decide +kernel
theorem dX4_init_15 : decode cX4_init 15 = .ok (.bipush 30, 2) := by decide +kernel
theorem dX4_init_17 : decode cX4_init 17 = .ok (.multianewarray 13 2, 4) := by decide +kernel
theorem dX4_init_21 : decode cX4_init 21 = .ok (.putfield 15, 3) := by decide +kernel
theorem dX4_init_24 : decode cX4_init 24 = .ok (.aload_n 0, 1) := by decide +kernel
theorem dX4_init_25 : decode cX4_init 25 = .ok (.iconst 3, 1) := by decide +kernel
theorem dX4_init_26 : decode cX4_init 26 = .ok (.newarray .int, 2) := by decide +kernel
theorem dX4_init_28 : decode cX4_init 28 = .ok (.putfield 18, 3) := by decide +kernel
theorem dX4_init_31 : decode cX4_init 31 = .ok (.aload_n 0, 1) := by decide +kernel
theorem dX4_init_32 : decode cX4_init 32 = .ok (.invokevirtual 21, 3) := by decide +kernel
theorem dX4_init_35 : decode cX4_init 35 = .ok (.aload_n 0, 1) := by decide +kernel
theorem dX4_init_36 : decode cX4_init 36 = .ok (.invokevirtual 24, 3) := by decide +kernel
theorem dX4_init_39 : decode cX4_init 39 = .ok (.aload_n 0, 1) := by decide +kernel
theorem dX4_init_40 : decode cX4_init 40 = .ok (.invokevirtual 27, 3) := by decide +kernel
theorem dX4_init_43 : decode cX4_init 43 = .ok (.return_, 1) := by decide +kernel
theorem dX4_told_0 : decode cX4_told 0 = .ok (.iload_n 2, 1) := by decide +kernel
theorem dX4_told_1 : decode cX4_told 1 = .ok (.istore 4, 2) := by decide +kernel
theorem dX4_told_3 : decode cX4_told 3 = .ok (.iload 4, 2) := by decide +kernel
theorem dX4_told_5 : decode cX4_told 5 = .ok (.iload_n 3, 1) := by decide +kernel
theorem dX4_told_6 : decode cX4_told 6 = .ok (.if_icmp .gt 17, 3) := by decide +kernel
theorem dX4_told_9 : decode cX4_told 9 = .ok (.aload_n 0, 1) := by decide +kernel
theorem dX4_told_10 : decode cX4_told 10 = .ok (.getfield 7, 3) := by decide +kernel
theorem dX4_told_13 : decode cX4_told 13 = .ok (.iload 4, 2) := by decide +kernel
theorem dX4_told_15 : decode cX4_told 15 = .ok (.iload_n 1, 1) := by decide +kernel
theorem dX4_told_16 : decode cX4_told 16 = .ok (.iastore, 1) := by decide +kernel
theorem dX4_told_17 : decode cX4_told 17 = .ok (.iinc 4 1, 3) := by decide +kernel
theorem dX4_told_20 : decode cX4_told 20 = .ok (.goto (-17), 3) := by decide +kernel
theorem dX4_told_23 : decode cX4_told 23 = .ok (.return_, 1) := by decide +kernel
theorem dX4_letters_0 : decode cX4_letters 0 = .ok (.aload_n 0, 1) := by decide +kernel
theorem dX4_letters_1 : decode cX4_letters 1 = .ok (.iconst 1, 1) := by decide +kernel
theorem dX4_letters_2 : decode cX4_letters 2 = .ok (.bipush 65, 2) := by decide +kernel
theorem dX4_letters_4 : decode cX4_letters 4 = .ok (.bipush 90, 2) := by decide +kernel
theorem dX4_letters_6 : decode cX4_letters 6 = .ok (.invokevirtual 34, 3) := by decide +kernel
theorem dX4_letters_9 : decode cX4_letters 9 = .ok (.aload_n 0, 1) := by decide +kernel
theorem dX4_letters_10 : decode cX4_letters 10 = .ok (.iconst 1, 1) := by decide +kernel
theorem dX4_letters_11 : decode cX4_letters 11 = .ok (.sipush 192, 3) := by decide +kernel
theorem dX4_letters_14 : decode cX4_letters 14 = .ok (.sipush 214, 3) := by decide +kernel
theorem dX4_letters_17 : decode cX4_letters 17 = .ok (.invokevirtual 34, 3) := by decide +kernel
theorem dX4_letters_20 : decode cX4_letters 20 = .ok (.aload_n 0, 1) := by decide +kernel
theorem dX4_letters_21 : decode cX4_letters 21 = .ok (.iconst 1, 1) := by decide +kernel
theorem dX4_letters_22 : decode cX4_letters 22 = .ok (.sipush 216, 3) := by decide +kernel
theorem dX4_letters_25 : decode cX4_letters 25 = .ok (.sipush 222, 3) := by decide +kernel
theorem dX4_letters_28 : decode cX4_letters 28 = .ok (.invokevirtual 34, 3) := by decide +kernel
theorem dX4_letters_31 : decode cX4_letters 31 = .ok (.aload_n 0, 1) := by decide +kernel
theorem dX4_letters_32 : decode cX4_letters 32 = .ok (.iconst 2, 1) := by decide +kernel
theorem dX4_letters_33 : decode cX4_letters 33 = .ok (.bipush 97, 2) := by decide +kernel
theorem dX4_letters_35 : decode cX4_letters 35 = .ok (.bipush 122, 2) := by decide +kernel
theorem dX4_letters_37 : decode cX4_letters 37 = .ok (.invokevirtual 34, 3) := by decide +kernel
theorem dX4_letters_40 : decode cX4_letters 40 = .ok (.aload_n 0, 1) := by decide +kernel
theorem dX4_letters_41 : decode cX4_letters 41 = .ok (.iconst 2, 1) := by decide +kernel
theorem dX4_letters_42 : decode cX4_letters 42 = .ok (.sipush 181, 3) := by decide +kernel
theorem dX4_letters_45 : decode cX4_letters 45 = .ok (.sipush 181, 3) := by decide +kernel
theorem dX4_letters_48 : decode cX4_letters 48 = .ok (.invokevirtual 34, 3) := by decide +kernel
theorem dX4_letters_51 : decode cX4_letters 51 = .ok (.aload_n 0, 1) := by decide +kernel
theorem dX4_letters_52 : decode cX4_letters 52 = .ok (.iconst 2, 1) := by decide +kernel
theorem dX4_letters_53 : decode cX4_letters 53 = .ok (.sipush 223, 3) := by decide +kernel
theorem dX4_letters_56 : decode cX4_letters 56 = .ok (.sipush 246, 3) := by decide +kernel
theorem dX4_letters_59 : decode cX4_letters 59 = .ok (.invokevirtual 34, 3) := by decide +kernel
theorem dX4_letters_62 : decode cX4_letters 62 = .ok (.aload_n 0, 1) := by decide +kernel
theorem dX4_letters_63 : decode cX4_letters 63 = .ok (.iconst 2, 1) := by decide +kernel
theorem dX4_letters_64 : decode cX4_letters 64 = .ok (.sipush 248, 3) := by decide +kernel
theorem dX4_letters_67 : decode cX4_letters 67 = .ok (.sipush 255, 3) := by decide +kernel
theorem dX4_letters_70 : decode cX4_letters 70 = .ok (.invokevirtual 34, 3) := by decide +kernel
theorem dX4_letters_73 : decode cX4_letters 73 = .ok (.aload_n 0, 1) := by decide +kernel
theorem dX4_letters_74 : decode cX4_letters 74 = .ok (.iconst 5, 1) := by decide +kernel
theorem dX4_letters_75 : decode cX4_letters 75 = .ok (.sipush 170, 3) := by decide +kernel
theorem dX4_letters_78 : decode cX4_letters 78 = .ok (.sipush 170, 3) := by decide +kernel
theorem dX4_letters_81 : decode cX4_letters 81 = .ok (.invokevirtual 34, 3) := by decide +kernel
theorem dX4_letters_84 : decode cX4_letters 84 = .ok (.aload_n 0, 1) := by decide +kernel
theorem dX4_letters_85 : decode cX4_letters 85 = .ok (.iconst 5, 1) := by decide +kernel
theorem dX4_letters_86 : decode cX4_letters 86 = .ok (.sipush 186, 3) := by decide +kernel
theorem dX4_letters_89 : decode cX4_letters 89 = .ok (.sipush 186, 3) := by decide +kernel
theorem dX4_letters_92 : decode cX4_letters 92 = .ok (.invokevirtual 34, 3) := by decide +kernel
theorem dX4_letters_95 : decode cX4_letters 95 = .ok (.aload_n 0, 1) := by decide +kernel
theorem dX4_letters_96 : decode cX4_letters 96 = .ok (.bipush 9, 2) := by decide +kernel
theorem dX4_letters_98 : decode cX4_letters 98 = .ok (.bipush 48, 2) := by decide +kernel
theorem dX4_letters_100 : decode cX4_letters 100 = .ok (.bipush 57, 2) := by decide +kernel
theorem dX4_letters_102 : decode cX4_letters 102 = .ok (.invokevirtual 34, 3) := by decide +kernel
theorem dX4_letters_105 : decode cX4_letters 105 = .ok (.aload_n 0, 1) := by decide +kernel
theorem dX4_letters_106 : decode cX4_letters 106 = .ok (.bipush 11, 2) := by decide +kernel
theorem dX4_letters_108 : decode cX4_letters 108 = .ok (.sipush 178, 3) := by decide +kernel
theorem dX4_letters_111 : decode cX4_letters 111 = .ok (.sipush 179, 3) := by decide +kernel
theorem dX4_letters_114 : decode cX4_letters 114 = .ok (.invokevirtual 34, 3) := by decide +kernel
theorem dX4_letters_117 : decode cX4_letters 117 = .ok (.aload_n 0, 1) := by decide +kernel
theorem dX4_letters_118 : decode cX4_letters 118 = .ok (.bipush 11, 2) := by decide +kernel
theorem dX4_letters_120 : decode cX4_letters 120 = .ok (.sipush 185, 3) := by decide +kernel
theorem dX4_letters_123 : decode cX4_letters 123 = .ok (.sipush 185, 3) := by decide +kernel
theorem dX4_letters_126 : decode cX4_letters 126 = .ok (.invokevirtual 34, 3) := by decide +kernel
theorem dX4_letters_129 : decode cX4_letters 129 = .ok (.aload_n 0, 1) := by decide +kernel
theorem dX4_letters_130 : decode cX4_letters 130 = .ok (.bipush 11, 2) := by decide +kernel
theorem dX4_letters_132 : decode cX4_letters 132 = .ok (.sipush 188, 3) := by decide +kernel
theorem dX4_letters_135 : decode cX4_letters 135 = .ok (.sipush 190, 3) := by decide +kernel
theorem dX4_letters_138 : decode cX4_letters 138 = .ok (.invokevirtual 34, 3) := by decide +kernel
theorem dX4_letters_141 : decode cX4_letters 141 = .ok (.aload_n 0, 1) := by decide +kernel
theorem dX4_letters_142 : decode cX4_letters 142 = .ok (.bipush 12, 2) := by decide +kernel
theorem dX4_letters_144 : decode cX4_letters 144 = .ok (.bipush 32, 2) := by decide +kernel
theorem dX4_letters_146 : decode cX4_letters 146 = .ok (.bipush 32, 2) := by decide +kernel
theorem dX4_letters_148 : decode cX4_letters 148 = .ok (.invokevirtual 34, 3) := by decide +kernel
theorem dX4_letters_151 : decode cX4_letters 151 = .ok (.aload_n 0, 1) := by decide +kernel
theorem dX4_letters_152 : decode cX4_letters 152 = .ok (.bipush 12, 2) := by decide +kernel
theorem dX4_letters_154 : decode cX4_letters 154 = .ok (.sipush 160, 3) := by decide +kernel
theorem dX4_letters_157 : decode cX4_letters 157 = .ok (.sipush 160, 3) := by decide +kernel
theorem dX4_letters_160 : decode cX4_letters 160 = .ok (.invokevirtual 34, 3) := by decide +kernel
theorem dX4_letters_163 : decode cX4_letters 163 = .ok (.aload_n 0, 1) := by decide +kernel
theorem dX4_letters_164 : decode cX4_letters 164 = .ok (.bipush 15, 2) := by decide +kernel
theorem dX4_letters_166 : decode cX4_letters 166 = .ok (.iconst 0, 1) := by decide +kernel
theorem dX4_letters_167 : decode cX4_letters 167 = .ok (.bipush 31, 2) := by decide +kernel
theorem dX4_letters_169 : decode cX4_letters 169 = .ok (.invokevirtual 34, 3) := by decide +kernel
theorem dX4_letters_172 : decode cX4_letters 172 = .ok (.aload_n 0, 1) := by decide +kernel
theorem dX4_letters_173 : decode cX4_letters 173 = .ok (.bipush 15, 2) := by decide +kernel
theorem dX4_letters_175 : decode cX4_letters 175 = .ok (.bipush 127, 2) := by decide +kernel
theorem dX4_letters_177 : decode cX4_letters 177 = .ok (.sipush 159, 3) := by decide +kernel
theorem dX4_letters_180 : decode cX4_letters 180 = .ok (.invokevirtual 34, 3) := by decide +kernel
theorem dX4_letters_183 : decode cX4_letters 183 = .ok (.aload_n 0, 1) := by decide +kernel
theorem dX4_letters_184 : decode cX4_letters 184 = .ok (.bipush 16, 2) := by decide +kernel
theorem dX4_letters_186 : decode cX4_letters 186 = .ok (.sipush 173, 3) := by decide +kernel
theorem dX4_letters_189 : decode cX4_letters 189 = .ok (.sipush 173, 3) := by decide +kernel
theorem dX4_letters_192 : decode cX4_letters 192 = .ok (.invokevirtual 34, 3) := by decide +kernel
theorem dX4_letters_195 : decode cX4_letters 195 = .ok (.return_, 1) := by decide +kernel
theorem dX4_points_0 : decode cX4_points 0 = .ok (.aload_n 0, 1) := by decide +kernel
theorem dX4_points_1 : decode cX4_points 1 = .ok (.bipush 20, 2) := by decide +kernel
theorem dX4_points_3 : decode cX4_points 3 = .ok (.bipush 45, 2) := by decide +kernel
theorem dX4_points_5 : decode cX4_points 5 = .ok (.bipush 45, 2) := by decide +kernel
theorem dX4_points_7 : decode cX4_points 7 = .ok (.invokevirtual 34, 3) := by decide +kernel
theorem dX4_points_10 : decode cX4_points 10 = .ok (.iconst 3, 1) := by decide +kernel
theorem dX4_points_11 : decode cX4_points 11 = .ok (.newarray .int, 2) := by decide +kernel
theorem dX4_points_13 : decode cX4_points 13 = .ok (.dup, 1) := by decide +kernel
theorem dX4_points_14 : decode cX4_points 14 = .ok (.iconst 0, 1) := by decide +kernel
theorem dX4_points_15 : decode cX4_points 15 = .ok (.bipush 40, 2) := by decide +kernel
theorem dX4_points_17 : decode cX4_points 17 = .ok (.iastore, 1) := by decide +kernel
theorem dX4_points_18 : decode cX4_points 18 = .ok (.dup, 1) := by decide +kernel
theorem dX4_points_19 : decode cX4_points 19 = .ok (.iconst 1, 1) := by decide +kernel
theorem dX4_points_20 : decode cX4_points 20 = .ok (.bipush 91, 2) := by decide +kernel
theorem dX4_points_22 : decode cX4_points 22 = .ok (.iastore, 1) := by decide +kernel
theorem dX4_points_23 : decode cX4_points 23 = .ok (.dup, 1) := by decide +kernel
theorem dX4_points_24 : decode cX4_points 24 = .ok (.iconst 2, 1) := by decide +kernel
theorem dX4_points_25 : decode cX4_points 25 = .ok (.bipush 123, 2) := by decide +kernel
theorem dX4_points_27 : decode cX4_points 27 = .ok (.iastore, 1) := by decide +kernel
theorem dX4_points_28 : decode cX4_points 28 = .ok (.astore_n 1, 1) := by decide +kernel
theorem dX4_points_29 : decode cX4_points 29 = .ok (.iconst 3, 1) := by decide +kernel
theorem dX4_points_30 : decode cX4_points 30 = .ok (.newarray .int, 2) := by decide +kernel
theorem dX4_points_32 : decode cX4_points 32 = .ok (.dup, 1) := by decide +kernel
theorem dX4_points_33 : decode cX4_points 33 = .ok (.iconst 0, 1) := by decide +kernel
theorem dX4_points_34 : decode cX4_points 34 = .ok (.bipush 41, 2) := by decide +kernel
theorem dX4_points_36 : decode cX4_points 36 = .ok (.iastore, 1) := by decide +kernel
theorem dX4_points_37 : decode cX4_points 37 = .ok (.dup, 1) := by decide +kernel
theorem dX4_points_38 : decode cX4_points 38 = .ok (.iconst 1, 1) := by decide +kernel
theorem dX4_points_39 : decode cX4_points 39 = .ok (.bipush 93, 2) := by decide +kernel
theorem dX4_points_41 : decode cX4_points 41 = .ok (.iastore, 1) := by decide +kernel
theorem dX4_points_42 : decode cX4_points 42 = .ok (.dup, 1) := by decide +kernel
theorem dX4_points_43 : decode cX4_points 43 = .ok (.iconst 2, 1) := by decide +kernel
theorem dX4_points_44 : decode cX4_points 44 = .ok (.bipush 125, 2) := by decide +kernel
theorem dX4_points_46 : decode cX4_points 46 = .ok (.iastore, 1) := by decide +kernel
theorem dX4_points_47 : decode cX4_points 47 = .ok (.astore_n 2, 1) := by decide +kernel
theorem dX4_points_48 : decode cX4_points 48 = .ok (.aload_n 1, 1) := by decide +kernel
theorem dX4_points_49 : decode cX4_points 49 = .ok (.astore_n 3, 1) := by decide +kernel
theorem dX4_points_50 : decode cX4_points 50 = .ok (.aload_n 3, 1) := by decide +kernel
theorem dX4_points_51 : decode cX4_points 51 = .ok (.arraylength, 1) := by decide +kernel
theorem dX4_points_52 : decode cX4_points 52 = .ok (.istore 4, 2) := by decide +kernel
theorem dX4_points_54 : decode cX4_points 54 = .ok (.iconst 0, 1) := by decide +kernel
theorem dX4_points_55 : decode cX4_points 55 = .ok (.istore 5, 2) := by decide +kernel
theorem dX4_points_57 : decode cX4_points 57 = .ok (.iload 5, 2) := by decide +kernel
theorem dX4_points_59 : decode cX4_points 59 = .ok (.iload 4, 2) := by decide +kernel
theorem dX4_points_61 : decode cX4_points 61 = .ok (.if_icmp .ge 25, 3) := by decide +kernel
theorem dX4_points_64 : decode cX4_points 64 = .ok (.aload_n 3, 1) := by decide +kernel
theorem dX4_points_65 : decode cX4_points 65 = .ok (.iload 5, 2) := by decide +kernel
theorem dX4_points_67 : decode cX4_points 67 = .ok (.iaload, 1) := by decide +kernel
theorem dX4_points_68 : decode cX4_points 68 = .ok (.istore 6, 2) := by decide +kernel
theorem dX4_points_70 : decode cX4_points 70 = .ok (.aload_n 0, 1) := by decide +kernel
theorem dX4_points_71 : decode cX4_points 71 = .ok (.bipush 21, 2) := by decide +kernel
theorem dX4_points_73 : decode cX4_points 73 = .ok (.iload 6, 2) := by decide +kernel
theorem dX4_points_75 : decode cX4_points 75 = .ok (.iload 6, 2) := by decide +kernel
theorem dX4_points_77 : decode cX4_points 77 = .ok (.invokevirtual 34, 3) := by decide +kernel
theorem dX4_points_80 : decode cX4_points 80 = .ok (.iinc 5 1, 3) := by decide +kernel
theorem dX4_points_83 : decode cX4_points 83 = .ok (.goto (-26), 3) := by decide +kernel
theorem dX4_points_86 : decode cX4_points 86 = .ok (.aload_n 2, 1) := by decide +kernel
theorem dX4_points_87 : decode cX4_points 87 = .ok (.astore_n 3, 1) := by decide +kernel
theorem dX4_points_88 : decode cX4_points 88 = .ok (.aload_n 3, 1) := by decide +kernel
theorem dX4_points_89 : decode cX4_points 89 = .ok (.arraylength, 1) := by decide +kernel
theorem dX4_points_90 : decode cX4_points 90 = .ok (.istore 4, 2) := by decide +kernel
theorem dX4_points_92 : decode cX4_points 92 = .ok (.iconst 0, 1) := by decide +kernel
theorem dX4_points_93 : decode cX4_points 93 = .ok (.istore 5, 2) := by decide +kernel
theorem dX4_points_95 : decode cX4_points 95 = .ok (.iload 5, 2) := by decide +kernel
theorem dX4_points_97 : decode cX4_points 97 = .ok (.iload 4, 2) := by decide +kernel
theorem dX4_points_99 : decode cX4_points 99 = .ok (.if_icmp .ge 25, 3) := by decide +kernel
theorem dX4_points_102 : decode cX4_points 102 = .ok (.aload_n 3, 1) := by decide +kernel
theorem dX4_points_103 : decode cX4_points 103 = .ok (.iload 5, 2) := by decide +kernel
theorem dX4_points_105 : decode cX4_points 105 = .ok (.iaload, 1) := by decide +kernel
theorem dX4_points_106 : decode cX4_points 106 = .ok (.istore 6, 2) := by decide +kernel
theorem dX4_points_108 : decode cX4_points 108 = .ok (.aload_n 0, 1) := by decide +kernel
theorem dX4_points_109 : decode cX4_points 109 = .ok (.bipush 22, 2) := by decide +kernel
theorem dX4_points_111 : decode cX4_points 111 = .ok (.iload 6, 2) := by decide +kernel
theorem dX4_points_113 : decode cX4_points 113 = .ok (.iload 6, 2) := by decide +kernel
theorem dX4_points_115 : decode cX4_points 115 = .ok (.invokevirtual 34, 3) := by decide +kernel
theorem dX4_points_118 : decode cX4_points 118 = .ok (.iinc 5 1, 3) := by decide +kernel
theorem dX4_points_121 : decode cX4_points 121 = .ok (.goto (-26), 3) := by decide +kernel
theorem dX4_points_124 : decode cX4_points 124 = .ok (.aload_n 0, 1) := by decide +kernel
theorem dX4_points_125 : decode cX4_points 125 = .ok (.bipush 23, 2) := by decide +kernel
theorem dX4_points_127 : decode cX4_points 127 = .ok (.bipush 95, 2) := by decide +kernel
theorem dX4_points_129 : decode cX4_points 129 = .ok (.bipush 95, 2) := by decide +kernel
theorem dX4_points_131 : decode cX4_points 131 = .ok (.invokevirtual 34, 3) := by decide +kernel
theorem dX4_points_134 : decode cX4_points 134 = .ok (.bipush 20, 2) := by decide +kernel
theorem dX4_points_136 : decode cX4_points 136 = .ok (.newarray .int, 2) := by decide +kernel
theorem dX4_points_138 : decode cX4_points 138 = .ok (.dup, 1) := by decide +kernel
theorem dX4_points_139 : decode cX4_points 139 = .ok (.iconst 0, 1) := by decide +kernel
theorem dX4_points_140 : decode cX4_points 140 = .ok (.bipush 33, 2) := by decide +kernel
theorem dX4_points_142 : decode cX4_points 142 = .ok (.iastore, 1) := by decide +kernel
theorem dX4_points_143 : decode cX4_points 143 = .ok (.dup, 1) := by decide +kernel
theorem dX4_points_144 : decode cX4_points 144 = .ok (.iconst 1, 1) := by decide +kernel
theorem dX4_points_145 : decode cX4_points 145 = .ok (.bipush 34, 2) := by decide +kernel
theorem dX4_points_147 : decode cX4_points 147 = .ok (.iastore, 1) := by decide +kernel
theorem dX4_points_148 : decode cX4_points 148 = .ok (.dup, 1) := by decide +kernel
theorem dX4_points_149 : decode cX4_points 149 = .ok (.iconst 2, 1) := by decide +kernel
theorem dX4_points_150 : decode cX4_points 150 = .ok (.bipush 35, 2) := by decide +kernel
theorem dX4_points_152 : decode cX4_points 152 = .ok (.iastore, 1) := by decide +kernel
theorem dX4_points_153 : decode cX4_points 153 = .ok (.dup, 1) := by decide +kernel
theorem dX4_points_154 : decode cX4_points 154 = .ok (.iconst 3, 1) := by decide +kernel
theorem dX4_points_155 : decode cX4_points 155 = .ok (.bipush 37, 2) := by decide +kernel
theorem dX4_points_157 : decode cX4_points 157 = .ok (.iastore, 1) := by decide +kernel
theorem dX4_points_158 : decode cX4_points 158 = .ok (.dup, 1) := by decide +kernel
theorem dX4_points_159 : decode cX4_points 159 = .ok (.iconst 4, 1) := by decide +kernel
theorem dX4_points_160 : decode cX4_points 160 = .ok (.bipush 38, 2) := by decide +kernel
theorem dX4_points_162 : decode cX4_points 162 = .ok (.iastore, 1) := by decide +kernel
theorem dX4_points_163 : decode cX4_points 163 = .ok (.dup, 1) := by decide +kernel
theorem dX4_points_164 : decode cX4_points 164 = .ok (.iconst 5, 1) := by decide +kernel
theorem dX4_points_165 : decode cX4_points 165 = .ok (.bipush 39, 2) := by decide +kernel
theorem dX4_points_167 : decode cX4_points 167 = .ok (.iastore, 1) := by decide +kernel
theorem dX4_points_168 : decode cX4_points 168 = .ok (.dup, 1) := by decide +kernel
theorem dX4_points_169 : decode cX4_points 169 = .ok (.bipush 6, 2) := by decide +kernel
theorem dX4_points_171 : decode cX4_points 171 = .ok (.bipush 42, 2) := by decide +kernel
theorem dX4_points_173 : decode cX4_points 173 = .ok (.iastore, 1) := by decide +kernel
theorem dX4_points_174 : decode cX4_points 174 = .ok (.dup, 1) := by decide +kernel
theorem dX4_points_175 : decode cX4_points 175 = .ok (.bipush 7, 2) := by decide +kernel
theorem dX4_points_177 : decode cX4_points 177 = .ok (.bipush 44, 2) := by decide +kernel
theorem dX4_points_179 : decode cX4_points 179 = .ok (.iastore, 1) := by decide +kernel
theorem dX4_points_180 : decode cX4_points 180 = .ok (.dup, 1) := by decide +kernel
theorem dX4_points_181 : decode cX4_points 181 = .ok (.bipush 8, 2) := by decide +kernel
theorem dX4_points_183 : decode cX4_points 183 = .ok (.bipush 46, 2) := by decide +kernel
theorem dX4_points_185 : decode cX4_points 185 = .ok (.iastore, 1) := by decide +kernel
theorem dX4_points_186 : decode cX4_points 186 = .ok (.dup, 1) := by decide +kernel
theorem dX4_points_187 : decode cX4_points 187 = .ok (.bipush 9, 2) := by decide +kernel
theorem dX4_points_189 : decode cX4_points 189 = .ok (.bipush 47, 2) := by decide +kernel
theorem dX4_points_191 : decode cX4_points 191 = .ok (.iastore, 1) := by decide +kernel
theorem dX4_points_192 : decode cX4_points 192 = .ok (.dup, 1) := by decide +kernel
theorem dX4_points_193 : decode cX4_points 193 = .ok (.bipush 10, 2) := by decide +kernel
theorem dX4_points_195 : decode cX4_points 195 = .ok (.bipush 58, 2) := by decide +kernel
theorem dX4_points_197 : decode cX4_points 197 = .ok (.iastore, 1) := by decide +kernel
theorem dX4_points_198 : decode cX4_points 198 = .ok (.dup, 1) := by decide +kernel
theorem dX4_points_199 : decode cX4_points 199 = .ok (.bipush 11, 2) := by decide +kernel
theorem dX4_points_201 : decode cX4_points 201 = .ok (.bipush 59, 2) := by decide +kernel
theorem dX4_points_203 : decode cX4_points 203 = .ok (.iastore, 1) := by decide +kernel
theorem dX4_points_204 : decode cX4_points 204 = .ok (.dup, 1) := by decide +kernel
theorem dX4_points_205 : decode cX4_points 205 = .ok (.bipush 12, 2) := by decide +kernel
theorem dX4_points_207 : decode cX4_points 207 = .ok (.bipush 63, 2) := by decide +kernel
theorem dX4_points_209 : decode cX4_points 209 = .ok (.iastore, 1) := by decide +kernel
theorem dX4_points_210 : decode cX4_points 210 = .ok (.dup, 1) := by decide +kernel
theorem dX4_points_211 : decode cX4_points 211 = .ok (.bipush 13, 2) := by decide +kernel
theorem dX4_points_213 : decode cX4_points 213 = .ok (.bipush 64, 2) := by decide +kernel
theorem dX4_points_215 : decode cX4_points 215 = .ok (.iastore, 1) := by decide +kernel
theorem dX4_points_216 : decode cX4_points 216 = .ok (.dup, 1) := by decide +kernel
theorem dX4_points_217 : decode cX4_points 217 = .ok (.bipush 14, 2) := by decide +kernel
theorem dX4_points_219 : decode cX4_points 219 = .ok (.bipush 92, 2) := by decide +kernel
theorem dX4_points_221 : decode cX4_points 221 = .ok (.iastore, 1) := by decide +kernel
theorem dX4_points_222 : decode cX4_points 222 = .ok (.dup, 1) := by decide +kernel
theorem dX4_points_223 : decode cX4_points 223 = .ok (.bipush 15, 2) := by decide +kernel
theorem dX4_points_225 : decode cX4_points 225 = .ok (.sipush 161, 3) := by decide +kernel
theorem dX4_points_228 : decode cX4_points 228 = .ok (.iastore, 1) := by decide +kernel
theorem dX4_points_229 : decode cX4_points 229 = .ok (.dup, 1) := by decide +kernel
theorem dX4_points_230 : decode cX4_points 230 = .ok (.bipush 16, 2) := by decide +kernel
theorem dX4_points_232 : decode cX4_points 232 = .ok (.sipush 167, 3) := by decide +kernel
theorem dX4_points_235 : decode cX4_points 235 = .ok (.iastore, 1) := by decide +kernel
theorem dX4_points_236 : decode cX4_points 236 = .ok (.dup, 1) := by decide +kernel
theorem dX4_points_237 : decode cX4_points 237 = .ok (.bipush 17, 2) := by decide +kernel
theorem dX4_points_239 : decode cX4_points 239 = .ok (.sipush 182, 3) := by decide +kernel
theorem dX4_points_242 : decode cX4_points 242 = .ok (.iastore, 1) := by decide +kernel
theorem dX4_points_243 : decode cX4_points 243 = .ok (.dup, 1) := by decide +kernel
theorem dX4_points_244 : decode cX4_points 244 = .ok (.bipush 18, 2) := by decide +kernel
theorem dX4_points_246 : decode cX4_points 246 = .ok (.sipush 183, 3) := by decide +kernel
theorem dX4_points_249 : decode cX4_points 249 = .ok (.iastore, 1) := by decide +kernel
theorem dX4_points_250 : decode cX4_points 250 = .ok (.dup, 1) := by decide +kernel
theorem dX4_points_251 : decode cX4_points 251 = .ok (.bipush 19, 2) := by decide +kernel
theorem dX4_points_253 : decode cX4_points 253 = .ok (.sipush 191, 3) := by decide +kernel
theorem dX4_points_256 : decode cX4_points 256 = .ok (.iastore, 1) := by decide +kernel
theorem dX4_points_257 : decode cX4_points 257 = .ok (.astore_n 3, 1) := by decide +kernel
theorem dX4_points_258 : decode cX4_points 258 = .ok (.aload_n 3, 1) := by decide +kernel
theorem dX4_points_259 : decode cX4_points 259 = .ok (.astore 4, 2) := by decide +kernel
theorem dX4_points_261 : decode cX4_points 261 = .ok (.aload 4, 2) := by decide +kernel
theorem dX4_points_263 : decode cX4_points 263 = .ok (.arraylength, 1) := by decide +kernel
theorem dX4_points_264 : decode cX4_points 264 = .ok (.istore 5, 2) := by decide +kernel
theorem dX4_points_266 : decode cX4_points 266 = .ok (.iconst 0, 1) := by decide +kernel
theorem dX4_points_267 : decode cX4_points 267 = .ok (.istore 6, 2) := by decide +kernel
theorem dX4_points_269 : decode cX4_points 269 = .ok (.iload 6, 2) := by decide +kernel
theorem dX4_points_271 : decode cX4_points 271 = .ok (.iload 5, 2) := by decide +kernel
theorem dX4_points_273 : decode cX4_points 273 = .ok (.if_icmp .ge 26, 3) := by decide +kernel
theorem dX4_points_276 : decode cX4_points 276 = .ok (.aload 4, 2) := by decide +kernel
theorem dX4_points_278 : decode cX4_points 278 = .ok (.iload 6, 2) := by decide +kernel
theorem dX4_points_280 : decode cX4_points 280 = .ok (.iaload, 1) := by decide +kernel
theorem dX4_points_281 : decode cX4_points 281 = .ok (.istore 7, 2) := by decide +kernel
theorem dX4_points_283 : decode cX4_points 283 = .ok (.aload_n 0, 1) := by decide +kernel
theorem dX4_points_284 : decode cX4_points 284 = .ok (.bipush 24, 2) := by decide +kernel
theorem dX4_points_286 : decode cX4_points 286 = .ok (.iload 7, 2) := by decide +kernel
theorem dX4_points_288 : decode cX4_points 288 = .ok (.iload 7, 2) := by decide +kernel
theorem dX4_points_290 : decode cX4_points 290 = .ok (.invokevirtual 34, 3) := by decide +kernel
theorem dX4_points_293 : decode cX4_points 293 = .ok (.iinc 6 1, 3) := by decide +kernel
theorem dX4_points_296 : decode cX4_points 296 = .ok (.goto (-27), 3) := by decide +kernel
theorem dX4_points_299 : decode cX4_points 299 = .ok (.return_, 1) := by decide +kernel
theorem dX4_others_0 : decode cX4_others 0 = .ok (.bipush 10, 2) := by decide +kernel
theorem dX4_others_2 : decode cX4_others 2 = .ok (.newarray .int, 2) := by decide +kernel
theorem dX4_others_4 : decode cX4_others 4 = .ok (.dup, 1) := by decide +kernel
theorem dX4_others_5 : decode cX4_others 5 = .ok (.iconst 0, 1) := by decide +kernel
theorem dX4_others_6 : decode cX4_others 6 = .ok (.bipush 43, 2) := by decide +kernel
theorem dX4_others_8 : decode cX4_others 8 = .ok (.iastore, 1) := by decide +kernel
theorem dX4_others_9 : decode cX4_others 9 = .ok (.dup, 1) := by decide +kernel
theorem dX4_others_10 : decode cX4_others 10 = .ok (.iconst 1, 1) := by decide +kernel
theorem dX4_others_11 : decode cX4_others 11 = .ok (.bipush 60, 2) := by decide +kernel
theorem dX4_others_13 : decode cX4_others 13 = .ok (.iastore, 1) := by decide +kernel
theorem dX4_others_14 : decode cX4_others 14 = .ok (.dup, 1) := by decide +kernel
theorem dX4_others_15 : decode cX4_others 15 = .ok (.iconst 2, 1) := by decide +kernel
theorem dX4_others_16 : decode cX4_others 16 = .ok (.bipush 61, 2) := by decide +kernel
theorem dX4_others_18 : decode cX4_others 18 = .ok (.iastore, 1) := by decide +kernel
theorem dX4_others_19 : decode cX4_others 19 = .ok (.dup, 1) := by decide +kernel
theorem dX4_others_20 : decode cX4_others 20 = .ok (.iconst 3, 1) := by decide +kernel
theorem dX4_others_21 : decode cX4_others 21 = .ok (.bipush 62, 2) := by decide +kernel
theorem dX4_others_23 : decode cX4_others 23 = .ok (.iastore, 1) := by decide +kernel
theorem dX4_others_24 : decode cX4_others 24 = .ok (.dup, 1) := by decide +kernel
theorem dX4_others_25 : decode cX4_others 25 = .ok (.iconst 4, 1) := by decide +kernel
theorem dX4_others_26 : decode cX4_others 26 = .ok (.bipush 124, 2) := by decide +kernel
theorem dX4_others_28 : decode cX4_others 28 = .ok (.iastore, 1) := by decide +kernel
theorem dX4_others_29 : decode cX4_others 29 = .ok (.dup, 1) := by decide +kernel
theorem dX4_others_30 : decode cX4_others 30 = .ok (.iconst 5, 1) := by decide +kernel
theorem dX4_others_31 : decode cX4_others 31 = .ok (.bipush 126, 2) := by decide +kernel
theorem dX4_others_33 : decode cX4_others 33 = .ok (.iastore, 1) := by decide +kernel
theorem dX4_others_34 : decode cX4_others 34 = .ok (.dup, 1) := by decide +kernel
theorem dX4_others_35 : decode cX4_others 35 = .ok (.bipush 6, 2) := by decide +kernel
theorem dX4_others_37 : decode cX4_others 37 = .ok (.sipush 172, 3) := by decide +kernel
theorem dX4_others_40 : decode cX4_others 40 = .ok (.iastore, 1) := by decide +kernel
theorem dX4_others_41 : decode cX4_others 41 = .ok (.dup, 1) := by decide +kernel
theorem dX4_others_42 : decode cX4_others 42 = .ok (.bipush 7, 2) := by decide +kernel
theorem dX4_others_44 : decode cX4_others 44 = .ok (.sipush 177, 3) := by decide +kernel
theorem dX4_others_47 : decode cX4_others 47 = .ok (.iastore, 1) := by decide +kernel
theorem dX4_others_48 : decode cX4_others 48 = .ok (.dup, 1) := by decide +kernel
theorem dX4_others_49 : decode cX4_others 49 = .ok (.bipush 8, 2) := by decide +kernel
theorem dX4_others_51 : decode cX4_others 51 = .ok (.sipush 215, 3) := by decide +kernel
theorem dX4_others_54 : decode cX4_others 54 = .ok (.iastore, 1) := by decide +kernel
theorem dX4_others_55 : decode cX4_others 55 = .ok (.dup, 1) := by decide +kernel
theorem dX4_others_56 : decode cX4_others 56 = .ok (.bipush 9, 2) := by decide +kernel
theorem dX4_others_58 : decode cX4_others 58 = .ok (.sipush 247, 3) := by decide +kernel
theorem dX4_others_61 : decode cX4_others 61 = .ok (.iastore, 1) := by decide +kernel
theorem dX4_others_62 : decode cX4_others 62 = .ok (.astore_n 1, 1) := by decide +kernel
theorem dX4_others_63 : decode cX4_others 63 = .ok (.aload_n 1, 1) := by decide +kernel
theorem dX4_others_64 : decode cX4_others 64 = .ok (.astore_n 2, 1) := by decide +kernel
theorem dX4_others_65 : decode cX4_others 65 = .ok (.aload_n 2, 1) := by decide +kernel
theorem dX4_others_66 : decode cX4_others 66 = .ok (.arraylength, 1) := by decide +kernel
theorem dX4_others_67 : decode cX4_others 67 = .ok (.istore_n 3, 1) := by decide +kernel
theorem dX4_others_68 : decode cX4_others 68 = .ok (.iconst 0, 1) := by decide +kernel
theorem dX4_others_69 : decode cX4_others 69 = .ok (.istore 4, 2) := by decide +kernel
theorem dX4_others_71 : decode cX4_others 71 = .ok (.iload 4, 2) := by decide +kernel
theorem dX4_others_73 : decode cX4_others 73 = .ok (.iload_n 3, 1) := by decide +kernel
theorem dX4_others_74 : decode cX4_others 74 = .ok (.if_icmp .ge 25, 3) := by decide +kernel
theorem dX4_others_77 : decode cX4_others 77 = .ok (.aload_n 2, 1) := by decide +kernel
theorem dX4_others_78 : decode cX4_others 78 = .ok (.iload 4, 2) := by decide +kernel
theorem dX4_others_80 : decode cX4_others 80 = .ok (.iaload, 1) := by decide +kernel
theorem dX4_others_81 : decode cX4_others 81 = .ok (.istore 5, 2) := by decide +kernel
theorem dX4_others_83 : decode cX4_others 83 = .ok (.aload_n 0, 1) := by decide +kernel
theorem dX4_others_84 : decode cX4_others 84 = .ok (.bipush 25, 2) := by decide +kernel
theorem dX4_others_86 : decode cX4_others 86 = .ok (.iload 5, 2) := by decide +kernel
theorem dX4_others_88 : decode cX4_others 88 = .ok (.iload 5, 2) := by decide +kernel
theorem dX4_others_90 : decode cX4_others 90 = .ok (.invokevirtual 34, 3) := by decide +kernel
theorem dX4_others_93 : decode cX4_others 93 = .ok (.iinc 4 1, 3) := by decide +kernel
theorem dX4_others_96 : decode cX4_others 96 = .ok (.goto (-25), 3) := by decide +kernel
theorem dX4_others_99 : decode cX4_others 99 = .ok (.aload_n 0, 1) := by decide +kernel
theorem dX4_others_100 : decode cX4_others 100 = .ok (.bipush 26, 2) := by decide +kernel
theorem dX4_others_102 : decode cX4_others 102 = .ok (.bipush 36, 2) := by decide +kernel
theorem dX4_others_104 : decode cX4_others 104 = .ok (.bipush 36, 2) := by decide +kernel
theorem dX4_others_106 : decode cX4_others 106 = .ok (.invokevirtual 34, 3) := by decide +kernel
theorem dX4_others_109 : decode cX4_others 109 = .ok (.aload_n 0, 1) := by decide +kernel
theorem dX4_others_110 : decode cX4_others 110 = .ok (.bipush 26, 2) := by decide +kernel
theorem dX4_others_112 : decode cX4_others 112 = .ok (.sipush 162, 3) := by decide +kernel
theorem dX4_others_115 : decode cX4_others 115 = .ok (.sipush 165, 3) := by decide +kernel
theorem dX4_others_118 : decode cX4_others 118 = .ok (.invokevirtual 34, 3) := by decide +kernel
theorem dX4_others_121 : decode cX4_others 121 = .ok (.bipush 6, 2) := by decide +kernel
theorem dX4_others_123 : decode cX4_others 123 = .ok (.newarray .int, 2) := by decide +kernel
theorem dX4_others_125 : decode cX4_others 125 = .ok (.dup, 1) := by decide +kernel
theorem dX4_others_126 : decode cX4_others 126 = .ok (.iconst 0, 1) := by decide +kernel
theorem dX4_others_127 : decode cX4_others 127 = .ok (.bipush 94, 2) := by decide +kernel
theorem dX4_others_129 : decode cX4_others 129 = .ok (.iastore, 1) := by decide +kernel
theorem dX4_others_130 : decode cX4_others 130 = .ok (.dup, 1) := by decide +kernel
theorem dX4_others_131 : decode cX4_others 131 = .ok (.iconst 1, 1) := by decide +kernel
theorem dX4_others_132 : decode cX4_others 132 = .ok (.bipush 96, 2) := by decide +kernel
theorem dX4_others_134 : decode cX4_others 134 = .ok (.iastore, 1) := by decide +kernel
theorem dX4_others_135 : decode cX4_others 135 = .ok (.dup, 1) := by decide +kernel
theorem dX4_others_136 : decode cX4_others 136 = .ok (.iconst 2, 1) := by decide +kernel
theorem dX4_others_137 : decode cX4_others 137 = .ok (.sipush 168, 3) := by decide +kernel
theorem dX4_others_140 : decode cX4_others 140 = .ok (.iastore, 1) := by decide +kernel
theorem dX4_others_141 : decode cX4_others 141 = .ok (.dup, 1) := by decide +kernel
theorem dX4_others_142 : decode cX4_others 142 = .ok (.iconst 3, 1) := by decide +kernel
theorem dX4_others_143 : decode cX4_others 143 = .ok (.sipush 175, 3) := by decide +kernel
theorem dX4_others_146 : decode cX4_others 146 = .ok (.iastore, 1) := by decide +kernel
theorem dX4_others_147 : decode cX4_others 147 = .ok (.dup, 1) := by decide +kernel
theorem dX4_others_148 : decode cX4_others 148 = .ok (.iconst 4, 1) := by decide +kernel
theorem dX4_others_149 : decode cX4_others 149 = .ok (.sipush 180, 3) := by decide +kernel
theorem dX4_others_152 : decode cX4_others 152 = .ok (.iastore, 1) := by decide +kernel
theorem dX4_others_153 : decode cX4_others 153 = .ok (.dup, 1) := by decide +kernel
theorem dX4_others_154 : decode cX4_others 154 = .ok (.iconst 5, 1) := by decide +kernel
theorem dX4_others_155 : decode cX4_others 155 = .ok (.sipush 184, 3) := by decide +kernel
theorem dX4_others_158 : decode cX4_others 158 = .ok (.iastore, 1) := by decide +kernel
theorem dX4_others_159 : decode cX4_others 159 = .ok (.astore_n 2, 1) := by decide +kernel
theorem dX4_others_160 : decode cX4_others 160 = .ok (.aload_n 2, 1) := by decide +kernel
theorem dX4_others_161 : decode cX4_others 161 = .ok (.astore_n 3, 1) := by decide +kernel
theorem dX4_others_162 : decode cX4_others 162 = .ok (.aload_n 3, 1) := by decide +kernel
theorem dX4_others_163 : decode cX4_others 163 = .ok (.arraylength, 1) := by decide +kernel
theorem dX4_others_164 : decode cX4_others 164 = .ok (.istore 4, 2) := by decide +kernel
theorem dX4_others_166 : decode cX4_others 166 = .ok (.iconst 0, 1) := by decide +kernel
theorem dX4_others_167 : decode cX4_others 167 = .ok (.istore 5, 2) := by decide +kernel
theorem dX4_others_169 : decode cX4_others 169 = .ok (.iload 5, 2) := by decide +kernel
theorem dX4_others_171 : decode cX4_others 171 = .ok (.iload 4, 2) := by decide +kernel
theorem dX4_others_173 : decode cX4_others 173 = .ok (.if_icmp .ge 25, 3) := by decide +kernel
theorem dX4_others_176 : decode cX4_others 176 = .ok (.aload_n 3, 1) := by decide +kernel
theorem dX4_others_177 : decode cX4_others 177 = .ok (.iload 5, 2) := by decide +kernel
theorem dX4_others_179 : decode cX4_others 179 = .ok (.iaload, 1) := by decide +kernel
theorem dX4_others_180 : decode cX4_others 180 = .ok (.istore 6, 2) := by decide +kernel
theorem dX4_others_182 : decode cX4_others 182 = .ok (.aload_n 0, 1) := by decide +kernel
theorem dX4_others_183 : decode cX4_others 183 = .ok (.bipush 27, 2) := by decide +kernel
theorem dX4_others_185 : decode cX4_others 185 = .ok (.iload 6, 2) := by decide +kernel
theorem dX4_others_187 : decode cX4_others 187 = .ok (.iload 6, 2) := by decide +kernel
theorem dX4_others_189 : decode cX4_others 189 = .ok (.invokevirtual 34, 3) := by decide +kernel
theorem dX4_others_192 : decode cX4_others 192 = .ok (.iinc 5 1, 3) := by decide +kernel
theorem dX4_others_195 : decode cX4_others 195 = .ok (.goto (-26), 3) := by decide +kernel
theorem dX4_others_198 : decode cX4_others 198 = .ok (.iconst 4, 1) := by decide +kernel
theorem dX4_others_199 : decode cX4_others 199 = .ok (.newarray .int, 2) := by decide +kernel
theorem dX4_others_201 : decode cX4_others 201 = .ok (.dup, 1) := by decide +kernel
theorem dX4_others_202 : decode cX4_others 202 = .ok (.iconst 0, 1) := by decide +kernel
theorem dX4_others_203 : decode cX4_others 203 = .ok (.sipush 166, 3) := by decide +kernel
theorem dX4_others_206 : decode cX4_others 206 = .ok (.iastore, 1) := by decide +kernel
theorem dX4_others_207 : decode cX4_others 207 = .ok (.dup, 1) := by decide +kernel
theorem dX4_others_208 : decode cX4_others 208 = .ok (.iconst 1, 1) := by decide +kernel
theorem dX4_others_209 : decode cX4_others 209 = .ok (.sipush 169, 3) := by decide +kernel
theorem dX4_others_212 : decode cX4_others 212 = .ok (.iastore, 1) := by decide +kernel
theorem dX4_others_213 : decode cX4_others 213 = .ok (.dup, 1) := by decide +kernel
theorem dX4_others_214 : decode cX4_others 214 = .ok (.iconst 2, 1) := by decide +kernel
theorem dX4_others_215 : decode cX4_others 215 = .ok (.sipush 174, 3) := by decide +kernel
theorem dX4_others_218 : decode cX4_others 218 = .ok (.iastore, 1) := by decide +kernel
theorem dX4_others_219 : decode cX4_others 219 = .ok (.dup, 1) := by decide +kernel
theorem dX4_others_220 : decode cX4_others 220 = .ok (.iconst 3, 1) := by decide +kernel
theorem dX4_others_221 : decode cX4_others 221 = .ok (.sipush 176, 3) := by decide +kernel
theorem dX4_others_224 : decode cX4_others 224 = .ok (.iastore, 1) := by decide +kernel
theorem dX4_others_225 : decode cX4_others 225 = .ok (.astore_n 3, 1) := by decide +kernel
theorem dX4_others_226 : decode cX4_others 226 = .ok (.aload_n 3, 1) := by decide +kernel
theorem dX4_others_227 : decode cX4_others 227 = .ok (.astore 4, 2) := by decide +kernel
theorem dX4_others_229 : decode cX4_others 229 = .ok (.aload 4, 2) := by decide +kernel
theorem dX4_others_231 : decode cX4_others 231 = .ok (.arraylength, 1) := by decide +kernel
theorem dX4_others_232 : decode cX4_others 232 = .ok (.istore 5, 2) := by decide +kernel
theorem dX4_others_234 : decode cX4_others 234 = .ok (.iconst 0, 1) := by decide +kernel
theorem dX4_others_235 : decode cX4_others 235 = .ok (.istore 6, 2) := by decide +kernel
theorem dX4_others_237 : decode cX4_others 237 = .ok (.iload 6, 2) := by decide +kernel
theorem dX4_others_239 : decode cX4_others 239 = .ok (.iload 5, 2) := by decide +kernel
theorem dX4_others_241 : decode cX4_others 241 = .ok (.if_icmp .ge 26, 3) := by decide +kernel
theorem dX4_others_244 : decode cX4_others 244 = .ok (.aload 4, 2) := by decide +kernel
theorem dX4_others_246 : decode cX4_others 246 = .ok (.iload 6, 2) := by decide +kernel
theorem dX4_others_248 : decode cX4_others 248 = .ok (.iaload, 1) := by decide +kernel
theorem dX4_others_249 : decode cX4_others 249 = .ok (.istore 7, 2) := by decide +kernel
theorem dX4_others_251 : decode cX4_others 251 = .ok (.aload_n 0, 1) := by decide +kernel
theorem dX4_others_252 : decode cX4_others 252 = .ok (.bipush 28, 2) := by decide +kernel
theorem dX4_others_254 : decode cX4_others 254 = .ok (.iload 7, 2) := by decide +kernel
theorem dX4_others_256 : decode cX4_others 256 = .ok (.iload 7, 2) := by decide +kernel
theorem dX4_others_258 : decode cX4_others 258 = .ok (.invokevirtual 34, 3) := by decide +kernel
theorem dX4_others_261 : decode cX4_others 261 = .ok (.iinc 6 1, 3) := by decide +kernel
theorem dX4_others_264 : decode cX4_others 264 = .ok (.goto (-27), 3) := by decide +kernel
theorem dX4_others_267 : decode cX4_others 267 = .ok (.aload_n 0, 1) := by decide +kernel
theorem dX4_others_268 : decode cX4_others 268 = .ok (.bipush 29, 2) := by decide +kernel
theorem dX4_others_270 : decode cX4_others 270 = .ok (.sipush 171, 3) := by decide +kernel
theorem dX4_others_273 : decode cX4_others 273 = .ok (.sipush 171, 3) := by decide +kernel
theorem dX4_others_276 : decode cX4_others 276 = .ok (.invokevirtual 34, 3) := by decide +kernel
theorem dX4_others_279 : decode cX4_others 279 = .ok (.aload_n 0, 1) := by decide +kernel
theorem dX4_others_280 : decode cX4_others 280 = .ok (.bipush 30, 2) := by decide +kernel
theorem dX4_others_282 : decode cX4_others 282 = .ok (.sipush 187, 3) := by decide +kernel
theorem dX4_others_285 : decode cX4_others 285 = .ok (.sipush 187, 3) := by decide +kernel
theorem dX4_others_288 : decode cX4_others 288 = .ok (.invokevirtual 34, 3) := by decide +kernel
theorem dX4_others_291 : decode cX4_others 291 = .ok (.return_, 1) := by decide +kernel
theorem dX4_isLetter_0 : decode cX4_isLetter 0 = .ok (.iload_n 0, 1) := by decide +kernel
theorem dX4_isLetter_1 : decode cX4_isLetter 1 = .ok (.iconst 1, 1) := by decide +kernel
theorem dX4_isLetter_2 : decode cX4_isLetter 2 = .ok (.if_icmp .eq 13, 3) := by decide +kernel
theorem dX4_isLetter_5 : decode cX4_isLetter 5 = .ok (.iload_n 0, 1) := by decide +kernel
theorem dX4_isLetter_6 : decode cX4_isLetter 6 = .ok (.iconst 2, 1) := by decide +kernel
theorem dX4_isLetter_7 : decode cX4_isLetter 7 = .ok (.if_icmp .eq 8, 3) := by decide +kernel
theorem dX4_isLetter_10 : decode cX4_isLetter 10 = .ok (.iload_n 0, 1) := by decide +kernel
theorem dX4_isLetter_11 : decode cX4_isLetter 11 = .ok (.iconst 5, 1) := by decide +kernel
theorem dX4_isLetter_12 : decode cX4_isLetter 12 = .ok (.if_icmp .ne 7, 3) := by decide +kernel
theorem dX4_isLetter_15 : decode cX4_isLetter 15 = .ok (.iconst 1, 1) := by decide +kernel
theorem dX4_isLetter_16 : decode cX4_isLetter 16 = .ok (.goto 4, 3) := by decide +kernel
theorem dX4_isLetter_19 : decode cX4_isLetter 19 = .ok (.iconst 0, 1) := by decide +kernel
theorem dX4_isLetter_20 : decode cX4_isLetter 20 = .ok (.ireturn, 1) := by decide +kernel
theorem dX4_isBlank_0 : decode cX4_isBlank 0 = .ok (.iload_n 0, 1) := by decide +kernel
theorem dX4_isBlank_1 : decode cX4_isBlank 1 = .ok (.bipush 8, 2) := by decide +kernel
theorem dX4_isBlank_3 : decode cX4_isBlank 3 = .ok (.if_icmp .le 9, 3) := by decide +kernel
theorem dX4_isBlank_6 : decode cX4_isBlank 6 = .ok (.iload_n 0, 1) := by decide +kernel
theorem dX4_isBlank_7 : decode cX4_isBlank 7 = .ok (.bipush 14, 2) := by decide +kernel
theorem dX4_isBlank_9 : decode cX4_isBlank 9 = .ok (.if_icmp .lt 15, 3) := by decide +kernel
theorem dX4_isBlank_12 : decode cX4_isBlank 12 = .ok (.iload_n 0, 1) := by decide +kernel
theorem dX4_isBlank_13 : decode cX4_isBlank 13 = .ok (.bipush 27, 2) := by decide +kernel
theorem dX4_isBlank_15 : decode cX4_isBlank 15 = .ok (.if_icmp .le 13, 3) := by decide +kernel
theorem dX4_isBlank_18 : decode cX4_isBlank 18 = .ok (.iload_n 0, 1) := by decide +kernel
theorem dX4_isBlank_19 : decode cX4_isBlank 19 = .ok (.bipush 33, 2) := by decide +kernel
theorem dX4_isBlank_21 : decode cX4_isBlank 21 = .ok (.if_icmp .ge 7, 3) := by decide +kernel
theorem dX4_isBlank_24 : decode cX4_isBlank 24 = .ok (.iconst 1, 1) := by decide +kernel
theorem dX4_isBlank_25 : decode cX4_isBlank 25 = .ok (.goto 4, 3) := by decide +kernel
theorem dX4_isBlank_28 : decode cX4_isBlank 28 = .ok (.iconst 0, 1) := by decide +kernel
theorem dX4_isBlank_29 : decode cX4_isBlank 29 = .ok (.ireturn, 1) := by decide +kernel
theorem dX4_isSo_0 : decode cX4_isSo 0 = .ok (.aload_n 0, 1) := by decide +kernel
theorem dX4_isSo_1 : decode cX4_isSo 1 = .ok (.getfield 7, 3) := by decide +kernel
theorem dX4_isSo_4 : decode cX4_isSo 4 = .ok (.iload_n 1, 1) := by decide +kernel
theorem dX4_isSo_5 : decode cX4_isSo 5 = .ok (.iaload, 1) := by decide +kernel
theorem dX4_isSo_6 : decode cX4_isSo 6 = .ok (.istore_n 3, 1) := by decide +kernel
theorem dX4_isSo_7 : decode cX4_isSo 7 = .ok (.iload_n 2, 1) := by decide +kernel
theorem dX4_isSo_8 : decode cX4_isSo 8 = .ok (.tableswitch 263 0 12 #[68, 70, 75, 87, 106, 117, 133, 135, 140, 152, 164, 206, 231], 68) := by decide +kernel
theorem dX4_isSo_76 : decode cX4_isSo 76 = .ok (.iconst 1, 1) := by decide +kernel
theorem dX4_isSo_77 : decode cX4_isSo 77 = .ok (.ireturn, 1) := by decide +kernel
theorem dX4_isSo_78 : decode cX4_isSo 78 = .ok (.iload_n 3, 1) := by decide +kernel
theorem dX4_isSo_79 : decode cX4_isSo 79 = .ok (.invokestatic 38, 3) := by decide +kernel
theorem dX4_isSo_82 : decode cX4_isSo 82 = .ok (.ireturn, 1) := by decide +kernel
theorem dX4_isSo_83 : decode cX4_isSo 83 = .ok (.iload_n 3, 1) := by decide +kernel
theorem dX4_isSo_84 : decode cX4_isSo 84 = .ok (.bipush 9, 2) := by decide +kernel
theorem dX4_isSo_86 : decode cX4_isSo 86 = .ok (.if_icmp .ne 7, 3) := by decide +kernel
theorem dX4_isSo_89 : decode cX4_isSo 89 = .ok (.iconst 1, 1) := by decide +kernel
theorem dX4_isSo_90 : decode cX4_isSo 90 = .ok (.goto 4, 3) := by decide +kernel
theorem dX4_isSo_93 : decode cX4_isSo 93 = .ok (.iconst 0, 1) := by decide +kernel
theorem dX4_isSo_94 : decode cX4_isSo 94 = .ok (.ireturn, 1) := by decide +kernel
theorem dX4_isSo_95 : decode cX4_isSo 95 = .ok (.iload_n 3, 1) := by decide +kernel
theorem dX4_isSo_96 : decode cX4_isSo 96 = .ok (.invokestatic 38, 3) := by decide +kernel
theorem dX4_isSo_99 : decode cX4_isSo 99 = .ok (.ifCond .ne 9, 3) := by decide +kernel
theorem dX4_isSo_102 : decode cX4_isSo 102 = .ok (.iload_n 3, 1) := by decide +kernel
theorem dX4_isSo_103 : decode cX4_isSo 103 = .ok (.bipush 9, 2) := by decide +kernel
theorem dX4_isSo_105 : decode cX4_isSo 105 = .ok (.if_icmp .ne 7, 3) := by decide +kernel
theorem dX4_isSo_108 : decode cX4_isSo 108 = .ok (.iconst 1, 1) := by decide +kernel
theorem dX4_isSo_109 : decode cX4_isSo 109 = .ok (.goto 4, 3) := by decide +kernel
theorem dX4_isSo_112 : decode cX4_isSo 112 = .ok (.iconst 0, 1) := by decide +kernel
theorem dX4_isSo_113 : decode cX4_isSo 113 = .ok (.ireturn, 1) := by decide +kernel
theorem dX4_isSo_114 : decode cX4_isSo 114 = .ok (.iload_n 3, 1) := by decide +kernel
theorem dX4_isSo_115 : decode cX4_isSo 115 = .ok (.iconst 1, 1) := by decide +kernel
theorem dX4_isSo_116 : decode cX4_isSo 116 = .ok (.if_icmp .ne 7, 3) := by decide +kernel
theorem dX4_isSo_119 : decode cX4_isSo 119 = .ok (.iconst 1, 1) := by decide +kernel
theorem dX4_isSo_120 : decode cX4_isSo 120 = .ok (.goto 4, 3) := by decide +kernel
theorem dX4_isSo_123 : decode cX4_isSo 123 = .ok (.iconst 0, 1) := by decide +kernel
theorem dX4_isSo_124 : decode cX4_isSo 124 = .ok (.ireturn, 1) := by decide +kernel
theorem dX4_isSo_125 : decode cX4_isSo 125 = .ok (.iload_n 3, 1) := by decide +kernel
theorem dX4_isSo_126 : decode cX4_isSo 126 = .ok (.iconst 2, 1) := by decide +kernel
theorem dX4_isSo_127 : decode cX4_isSo 127 = .ok (.if_icmp .eq 8, 3) := by decide +kernel
theorem dX4_isSo_130 : decode cX4_isSo 130 = .ok (.iload_n 3, 1) := by decide +kernel
theorem dX4_isSo_131 : decode cX4_isSo 131 = .ok (.iconst 5, 1) := by decide +kernel
theorem dX4_isSo_132 : decode cX4_isSo 132 = .ok (.if_icmp .ne 7, 3) := by decide +kernel
theorem dX4_isSo_135 : decode cX4_isSo 135 = .ok (.iconst 1, 1) := by decide +kernel
theorem dX4_isSo_136 : decode cX4_isSo 136 = .ok (.goto 4, 3) := by decide +kernel
theorem dX4_isSo_139 : decode cX4_isSo 139 = .ok (.iconst 0, 1) := by decide +kernel
theorem dX4_isSo_140 : decode cX4_isSo 140 = .ok (.ireturn, 1) := by decide +kernel
theorem dX4_isSo_141 : decode cX4_isSo 141 = .ok (.iconst 0, 1) := by decide +kernel
theorem dX4_isSo_142 : decode cX4_isSo 142 = .ok (.ireturn, 1) := by decide +kernel
theorem dX4_isSo_143 : decode cX4_isSo 143 = .ok (.iload_n 1, 1) := by decide +kernel
theorem dX4_isSo_144 : decode cX4_isSo 144 = .ok (.invokestatic 42, 3) := by decide +kernel
theorem dX4_isSo_147 : decode cX4_isSo 147 = .ok (.ireturn, 1) := by decide +kernel
theorem dX4_isSo_148 : decode cX4_isSo 148 = .ok (.iload_n 3, 1) := by decide +kernel
theorem dX4_isSo_149 : decode cX4_isSo 149 = .ok (.bipush 12, 2) := by decide +kernel
theorem dX4_isSo_151 : decode cX4_isSo 151 = .ok (.if_icmp .ne 7, 3) := by decide +kernel
theorem dX4_isSo_154 : decode cX4_isSo 154 = .ok (.iconst 1, 1) := by decide +kernel
theorem dX4_isSo_155 : decode cX4_isSo 155 = .ok (.goto 4, 3) := by decide +kernel
theorem dX4_isSo_158 : decode cX4_isSo 158 = .ok (.iconst 0, 1) := by decide +kernel
theorem dX4_isSo_159 : decode cX4_isSo 159 = .ok (.ireturn, 1) := by decide +kernel
theorem dX4_isSo_160 : decode cX4_isSo 160 = .ok (.iload_n 3, 1) := by decide +kernel
theorem dX4_isSo_161 : decode cX4_isSo 161 = .ok (.bipush 15, 2) := by decide +kernel
theorem dX4_isSo_163 : decode cX4_isSo 163 = .ok (.if_icmp .ne 7, 3) := by decide +kernel
theorem dX4_isSo_166 : decode cX4_isSo 166 = .ok (.iconst 1, 1) := by decide +kernel
theorem dX4_isSo_167 : decode cX4_isSo 167 = .ok (.goto 4, 3) := by decide +kernel
theorem dX4_isSo_170 : decode cX4_isSo 170 = .ok (.iconst 0, 1) := by decide +kernel
theorem dX4_isSo_171 : decode cX4_isSo 171 = .ok (.ireturn, 1) := by decide +kernel
theorem dX4_isSo_172 : decode cX4_isSo 172 = .ok (.iload_n 3, 1) := by decide +kernel
theorem dX4_isSo_173 : decode cX4_isSo 173 = .ok (.bipush 21, 2) := by decide +kernel
theorem dX4_isSo_175 : decode cX4_isSo 175 = .ok (.if_icmp .eq 33, 3) := by decide +kernel
theorem dX4_isSo_178 : decode cX4_isSo 178 = .ok (.iload_n 3, 1) := by decide +kernel
theorem dX4_isSo_179 : decode cX4_isSo 179 = .ok (.bipush 22, 2) := by decide +kernel
theorem dX4_isSo_181 : decode cX4_isSo 181 = .ok (.if_icmp .eq 27, 3) := by decide +kernel
theorem dX4_isSo_184 : decode cX4_isSo 184 = .ok (.iload_n 3, 1) := by decide +kernel
theorem dX4_isSo_185 : decode cX4_isSo 185 = .ok (.bipush 29, 2) := by decide +kernel
theorem dX4_isSo_187 : decode cX4_isSo 187 = .ok (.if_icmp .eq 21, 3) := by decide +kernel
theorem dX4_isSo_190 : decode cX4_isSo 190 = .ok (.iload_n 3, 1) := by decide +kernel
theorem dX4_isSo_191 : decode cX4_isSo 191 = .ok (.bipush 30, 2) := by decide +kernel
theorem dX4_isSo_193 : decode cX4_isSo 193 = .ok (.if_icmp .eq 15, 3) := by decide +kernel
theorem dX4_isSo_196 : decode cX4_isSo 196 = .ok (.iload_n 1, 1) := by decide +kernel
theorem dX4_isSo_197 : decode cX4_isSo 197 = .ok (.bipush 60, 2) := by decide +kernel
theorem dX4_isSo_199 : decode cX4_isSo 199 = .ok (.if_icmp .eq 9, 3) := by decide +kernel
theorem dX4_isSo_202 : decode cX4_isSo 202 = .ok (.iload_n 1, 1) := by decide +kernel
theorem dX4_isSo_203 : decode cX4_isSo 203 = .ok (.bipush 62, 2) := by decide +kernel
theorem dX4_isSo_205 : decode cX4_isSo 205 = .ok (.if_icmp .ne 7, 3) := by decide +kernel
theorem dX4_isSo_208 : decode cX4_isSo 208 = .ok (.iconst 1, 1) := by decide +kernel
theorem dX4_isSo_209 : decode cX4_isSo 209 = .ok (.goto 4, 3) := by decide +kernel
theorem dX4_isSo_212 : decode cX4_isSo 212 = .ok (.iconst 0, 1) := by decide +kernel
theorem dX4_isSo_213 : decode cX4_isSo 213 = .ok (.ireturn, 1) := by decide +kernel
theorem dX4_isSo_214 : decode cX4_isSo 214 = .ok (.iload_n 3, 1) := by decide +kernel
theorem dX4_isSo_215 : decode cX4_isSo 215 = .ok (.invokestatic 38, 3) := by decide +kernel
theorem dX4_isSo_218 : decode cX4_isSo 218 = .ok (.ifCond .ne 15, 3) := by decide +kernel
theorem dX4_isSo_221 : decode cX4_isSo 221 = .ok (.iload_n 3, 1) := by decide +kernel
theorem dX4_isSo_222 : decode cX4_isSo 222 = .ok (.bipush 23, 2) := by decide +kernel
theorem dX4_isSo_224 : decode cX4_isSo 224 = .ok (.if_icmp .eq 9, 3) := by decide +kernel
theorem dX4_isSo_227 : decode cX4_isSo 227 = .ok (.iload_n 3, 1) := by decide +kernel
theorem dX4_isSo_228 : decode cX4_isSo 228 = .ok (.bipush 26, 2) := by decide +kernel
theorem dX4_isSo_230 : decode cX4_isSo 230 = .ok (.if_icmp .ne 7, 3) := by decide +kernel
theorem dX4_isSo_233 : decode cX4_isSo 233 = .ok (.iconst 1, 1) := by decide +kernel
theorem dX4_isSo_234 : decode cX4_isSo 234 = .ok (.goto 4, 3) := by decide +kernel
theorem dX4_isSo_237 : decode cX4_isSo 237 = .ok (.iconst 0, 1) := by decide +kernel
theorem dX4_isSo_238 : decode cX4_isSo 238 = .ok (.ireturn, 1) := by decide +kernel
theorem dX4_isSo_239 : decode cX4_isSo 239 = .ok (.aload_n 0, 1) := by decide +kernel
theorem dX4_isSo_240 : decode cX4_isSo 240 = .ok (.iload_n 1, 1) := by decide +kernel
theorem dX4_isSo_241 : decode cX4_isSo 241 = .ok (.bipush 11, 2) := by decide +kernel
theorem dX4_isSo_243 : decode cX4_isSo 243 = .ok (.invokevirtual 45, 3) := by decide +kernel
theorem dX4_isSo_246 : decode cX4_isSo 246 = .ok (.ifCond .ne 19, 3) := by decide +kernel
theorem dX4_isSo_249 : decode cX4_isSo 249 = .ok (.iload_n 3, 1) := by decide +kernel
theorem dX4_isSo_250 : decode cX4_isSo 250 = .ok (.bipush 9, 2) := by decide +kernel
theorem dX4_isSo_252 : decode cX4_isSo 252 = .ok (.if_icmp .eq 13, 3) := by decide +kernel
theorem dX4_isSo_255 : decode cX4_isSo 255 = .ok (.aload_n 0, 1) := by decide +kernel
theorem dX4_isSo_256 : decode cX4_isSo 256 = .ok (.iload_n 1, 1) := by decide +kernel
theorem dX4_isSo_257 : decode cX4_isSo 257 = .ok (.bipush 13, 2) := by decide +kernel
theorem dX4_isSo_259 : decode cX4_isSo 259 = .ok (.invokevirtual 45, 3) := by decide +kernel
theorem dX4_isSo_262 : decode cX4_isSo 262 = .ok (.ifCond .eq 7, 3) := by decide +kernel
theorem dX4_isSo_265 : decode cX4_isSo 265 = .ok (.iconst 1, 1) := by decide +kernel
theorem dX4_isSo_266 : decode cX4_isSo 266 = .ok (.goto 4, 3) := by decide +kernel
theorem dX4_isSo_269 : decode cX4_isSo 269 = .ok (.iconst 0, 1) := by decide +kernel
theorem dX4_isSo_270 : decode cX4_isSo 270 = .ok (.ireturn, 1) := by decide +kernel
theorem dX4_isSo_271 : decode cX4_isSo 271 = .ok (.iload_n 3, 1) := by decide +kernel
theorem dX4_isSo_272 : decode cX4_isSo 272 = .ok (.bipush 16, 2) := by decide +kernel
theorem dX4_isSo_274 : decode cX4_isSo 274 = .ok (.if_icmp .eq 16, 3) := by decide +kernel
theorem dX4_isSo_277 : decode cX4_isSo 277 = .ok (.iload_n 3, 1) := by decide +kernel
theorem dX4_isSo_278 : decode cX4_isSo 278 = .ok (.bipush 15, 2) := by decide +kernel
theorem dX4_isSo_280 : decode cX4_isSo 280 = .ok (.if_icmp .ne 14, 3) := by decide +kernel
theorem dX4_isSo_283 : decode cX4_isSo 283 = .ok (.iload_n 1, 1) := by decide +kernel
theorem dX4_isSo_284 : decode cX4_isSo 284 = .ok (.invokestatic 42, 3) := by decide +kernel
theorem dX4_isSo_287 : decode cX4_isSo 287 = .ok (.ifCond .ne 7, 3) := by decide +kernel
theorem dX4_isSo_290 : decode cX4_isSo 290 = .ok (.iconst 1, 1) := by decide +kernel
theorem dX4_isSo_291 : decode cX4_isSo 291 = .ok (.goto 4, 3) := by decide +kernel
theorem dX4_isSo_294 : decode cX4_isSo 294 = .ok (.iconst 0, 1) := by decide +kernel
theorem dX4_isSo_295 : decode cX4_isSo 295 = .ok (.ireturn, 1) := by decide +kernel
theorem dX4_areAll_0 : decode cX4_areAll 0 = .ok (.iload_n 2, 1) := by decide +kernel
theorem dX4_areAll_1 : decode cX4_areAll 1 = .ok (.istore 5, 2) := by decide +kernel
theorem dX4_areAll_3 : decode cX4_areAll 3 = .ok (.iload 5, 2) := by decide +kernel
theorem dX4_areAll_5 : decode cX4_areAll 5 = .ok (.iload_n 3, 1) := by decide +kernel
theorem dX4_areAll_6 : decode cX4_areAll 6 = .ok (.if_icmp .ge 29, 3) := by decide +kernel
theorem dX4_areAll_9 : decode cX4_areAll 9 = .ok (.aload_n 0, 1) := by decide +kernel
theorem dX4_areAll_10 : decode cX4_areAll 10 = .ok (.aload_n 0, 1) := by decide +kernel
theorem dX4_areAll_11 : decode cX4_areAll 11 = .ok (.getfield 15, 3) := by decide +kernel
theorem dX4_areAll_14 : decode cX4_areAll 14 = .ok (.iload_n 1, 1) := by decide +kernel
theorem dX4_areAll_15 : decode cX4_areAll 15 = .ok (.aaload, 1) := by decide +kernel
theorem dX4_areAll_16 : decode cX4_areAll 16 = .ok (.iload 5, 2) := by decide +kernel
theorem dX4_areAll_18 : decode cX4_areAll 18 = .ok (.iaload, 1) := by decide +kernel
theorem dX4_areAll_19 : decode cX4_areAll 19 = .ok (.iload 4, 2) := by decide +kernel
theorem dX4_areAll_21 : decode cX4_areAll 21 = .ok (.invokevirtual 45, 3) := by decide +kernel
theorem dX4_areAll_24 : decode cX4_areAll 24 = .ok (.ifCond .ne 5, 3) := by decide +kernel
theorem dX4_areAll_27 : decode cX4_areAll 27 = .ok (.iconst 0, 1) := by decide +kernel
theorem dX4_areAll_28 : decode cX4_areAll 28 = .ok (.ireturn, 1) := by decide +kernel
theorem dX4_areAll_29 : decode cX4_areAll 29 = .ok (.iinc 5 1, 3) := by decide +kernel
theorem dX4_areAll_32 : decode cX4_areAll 32 = .ok (.goto (-29), 3) := by decide +kernel
theorem dX4_areAll_35 : decode cX4_areAll 35 = .ok (.iconst 1, 1) := by decide +kernel
theorem dX4_areAll_36 : decode cX4_areAll 36 = .ok (.ireturn, 1) := by decide +kernel
theorem dX4_areSum_0 : decode cX4_areSum 0 = .ok (.iload_n 2, 1) := by decide +kernel
theorem dX4_areSum_1 : decode cX4_areSum 1 = .ok (.istore 4, 2) := by decide +kernel
theorem dX4_areSum_3 : decode cX4_areSum 3 = .ok (.iload 4, 2) := by decide +kernel
theorem dX4_areSum_5 : decode cX4_areSum 5 = .ok (.iload_n 3, 1) := by decide +kernel
theorem dX4_areSum_6 : decode cX4_areSum 6 = .ok (.if_icmp .ge 30, 3) := by decide +kernel
theorem dX4_areSum_9 : decode cX4_areSum 9 = .ok (.aload_n 0, 1) := by decide +kernel
theorem dX4_areSum_10 : decode cX4_areSum 10 = .ok (.getfield 7, 3) := by decide +kernel
theorem dX4_areSum_13 : decode cX4_areSum 13 = .ok (.aload_n 0, 1) := by decide +kernel
theorem dX4_areSum_14 : decode cX4_areSum 14 = .ok (.getfield 15, 3) := by decide +kernel
theorem dX4_areSum_17 : decode cX4_areSum 17 = .ok (.iload_n 1, 1) := by decide +kernel
theorem dX4_areSum_18 : decode cX4_areSum 18 = .ok (.aaload, 1) := by decide +kernel
theorem dX4_areSum_19 : decode cX4_areSum 19 = .ok (.iload 4, 2) := by decide +kernel
theorem dX4_areSum_21 : decode cX4_areSum 21 = .ok (.iaload, 1) := by decide +kernel
theorem dX4_areSum_22 : decode cX4_areSum 22 = .ok (.iaload, 1) := by decide +kernel
theorem dX4_areSum_23 : decode cX4_areSum 23 = .ok (.bipush 25, 2) := by decide +kernel
theorem dX4_areSum_25 : decode cX4_areSum 25 = .ok (.if_icmp .eq 5, 3) := by decide +kernel
theorem dX4_areSum_28 : decode cX4_areSum 28 = .ok (.iconst 0, 1) := by decide +kernel
theorem dX4_areSum_29 : decode cX4_areSum 29 = .ok (.ireturn, 1) := by decide +kernel
theorem dX4_areSum_30 : decode cX4_areSum 30 = .ok (.iinc 4 1, 3) := by decide +kernel
theorem dX4_areSum_33 : decode cX4_areSum 33 = .ok (.goto (-30), 3) := by decide +kernel
theorem dX4_areSum_36 : decode cX4_areSum 36 = .ok (.iconst 1, 1) := by decide +kernel
theorem dX4_areSum_37 : decode cX4_areSum 37 = .ok (.ireturn, 1) := by decide +kernel
theorem dX4_sortOf_0 : decode cX4_sortOf 0 = .ok (.aload_n 0, 1) := by decide +kernel
theorem dX4_sortOf_1 : decode cX4_sortOf 1 = .ok (.aload_n 0, 1) := by decide +kernel
theorem dX4_sortOf_2 : decode cX4_sortOf 2 = .ok (.getfield 15, 3) := by decide +kernel
theorem dX4_sortOf_5 : decode cX4_sortOf 5 = .ok (.iload_n 1, 1) := by decide +kernel
theorem dX4_sortOf_6 : decode cX4_sortOf 6 = .ok (.aaload, 1) := by decide +kernel
theorem dX4_sortOf_7 : decode cX4_sortOf 7 = .ok (.iload_n 2, 1) := by decide +kernel
theorem dX4_sortOf_8 : decode cX4_sortOf 8 = .ok (.iaload, 1) := by decide +kernel
theorem dX4_sortOf_9 : decode cX4_sortOf 9 = .ok (.bipush 11, 2) := by decide +kernel
theorem dX4_sortOf_11 : decode cX4_sortOf 11 = .ok (.invokevirtual 45, 3) := by decide +kernel
theorem dX4_sortOf_14 : decode cX4_sortOf 14 = .ok (.ifCond .eq 17, 3) := by decide +kernel
theorem dX4_sortOf_17 : decode cX4_sortOf 17 = .ok (.aload_n 0, 1) := by decide +kernel
theorem dX4_sortOf_18 : decode cX4_sortOf 18 = .ok (.iload_n 1, 1) := by decide +kernel
theorem dX4_sortOf_19 : decode cX4_sortOf 19 = .ok (.iload_n 2, 1) := by decide +kernel
theorem dX4_sortOf_20 : decode cX4_sortOf 20 = .ok (.iload_n 3, 1) := by decide +kernel
theorem dX4_sortOf_21 : decode cX4_sortOf 21 = .ok (.bipush 12, 2) := by decide +kernel
theorem dX4_sortOf_23 : decode cX4_sortOf 23 = .ok (.invokevirtual 49, 3) := by decide +kernel
theorem dX4_sortOf_26 : decode cX4_sortOf 26 = .ok (.ifCond .eq 5, 3) := by decide +kernel
theorem dX4_sortOf_29 : decode cX4_sortOf 29 = .ok (.iconst 0, 1) := by decide +kernel
theorem dX4_sortOf_30 : decode cX4_sortOf 30 = .ok (.ireturn, 1) := by decide +kernel
theorem dX4_sortOf_31 : decode cX4_sortOf 31 = .ok (.aload_n 0, 1) := by decide +kernel
theorem dX4_sortOf_32 : decode cX4_sortOf 32 = .ok (.iload_n 1, 1) := by decide +kernel
theorem dX4_sortOf_33 : decode cX4_sortOf 33 = .ok (.iload_n 2, 1) := by decide +kernel
theorem dX4_sortOf_34 : decode cX4_sortOf 34 = .ok (.iload_n 3, 1) := by decide +kernel
theorem dX4_sortOf_35 : decode cX4_sortOf 35 = .ok (.iconst 2, 1) := by decide +kernel
theorem dX4_sortOf_36 : decode cX4_sortOf 36 = .ok (.invokevirtual 49, 3) := by decide +kernel
theorem dX4_sortOf_39 : decode cX4_sortOf 39 = .ok (.ifCond .eq 5, 3) := by decide +kernel
theorem dX4_sortOf_42 : decode cX4_sortOf 42 = .ok (.iconst 1, 1) := by decide +kernel
theorem dX4_sortOf_43 : decode cX4_sortOf 43 = .ok (.ireturn, 1) := by decide +kernel
theorem dX4_sortOf_44 : decode cX4_sortOf 44 = .ok (.aload_n 0, 1) := by decide +kernel
theorem dX4_sortOf_45 : decode cX4_sortOf 45 = .ok (.iload_n 1, 1) := by decide +kernel
theorem dX4_sortOf_46 : decode cX4_sortOf 46 = .ok (.iload_n 2, 1) := by decide +kernel
theorem dX4_sortOf_47 : decode cX4_sortOf 47 = .ok (.iload_n 3, 1) := by decide +kernel
theorem dX4_sortOf_48 : decode cX4_sortOf 48 = .ok (.bipush 7, 2) := by decide +kernel
theorem dX4_sortOf_50 : decode cX4_sortOf 50 = .ok (.invokevirtual 49, 3) := by decide +kernel
theorem dX4_sortOf_53 : decode cX4_sortOf 53 = .ok (.ifCond .eq 5, 3) := by decide +kernel
theorem dX4_sortOf_56 : decode cX4_sortOf 56 = .ok (.iconst 2, 1) := by decide +kernel
theorem dX4_sortOf_57 : decode cX4_sortOf 57 = .ok (.ireturn, 1) := by decide +kernel
theorem dX4_sortOf_58 : decode cX4_sortOf 58 = .ok (.aload_n 0, 1) := by decide +kernel
theorem dX4_sortOf_59 : decode cX4_sortOf 59 = .ok (.iload_n 1, 1) := by decide +kernel
theorem dX4_sortOf_60 : decode cX4_sortOf 60 = .ok (.iload_n 2, 1) := by decide +kernel
theorem dX4_sortOf_61 : decode cX4_sortOf 61 = .ok (.iload_n 3, 1) := by decide +kernel
theorem dX4_sortOf_62 : decode cX4_sortOf 62 = .ok (.invokevirtual 53, 3) := by decide +kernel
theorem dX4_sortOf_65 : decode cX4_sortOf 65 = .ok (.ifCond .eq 7, 3) := by decide +kernel
theorem dX4_sortOf_68 : decode cX4_sortOf 68 = .ok (.iconst 3, 1) := by decide +kernel
theorem dX4_sortOf_69 : decode cX4_sortOf 69 = .ok (.goto 15, 3) := by decide +kernel
theorem dX4_sortOf_72 : decode cX4_sortOf 72 = .ok (.iload_n 3, 1) := by decide +kernel
theorem dX4_sortOf_73 : decode cX4_sortOf 73 = .ok (.iload_n 2, 1) := by decide +kernel
theorem dX4_sortOf_74 : decode cX4_sortOf 74 = .ok (.iconst 1, 1) := by decide +kernel
theorem dX4_sortOf_75 : decode cX4_sortOf 75 = .ok (.iadd, 1) := by decide +kernel
theorem dX4_sortOf_76 : decode cX4_sortOf 76 = .ok (.if_icmp .ne 7, 3) := by decide +kernel
theorem dX4_sortOf_79 : decode cX4_sortOf 79 = .ok (.iconst 4, 1) := by decide +kernel
theorem dX4_sortOf_80 : decode cX4_sortOf 80 = .ok (.goto 4, 3) := by decide +kernel
theorem dX4_sortOf_83 : decode cX4_sortOf 83 = .ok (.iconst (-1), 1) := by decide +kernel
theorem dX4_sortOf_84 : decode cX4_sortOf 84 = .ok (.ireturn, 1) := by decide +kernel
theorem dX4_longestOf_0 : decode cX4_longestOf 0 = .ok (.aload_n 0, 1) := by decide +kernel
theorem dX4_longestOf_1 : decode cX4_longestOf 1 = .ok (.getfield 18, 3) := by decide +kernel
theorem dX4_longestOf_4 : decode cX4_longestOf 4 = .ok (.iload_n 1, 1) := by decide +kernel
theorem dX4_longestOf_5 : decode cX4_longestOf 5 = .ok (.iaload, 1) := by decide +kernel
theorem dX4_longestOf_6 : decode cX4_longestOf 6 = .ok (.istore_n 3, 1) := by decide +kernel
theorem dX4_longestOf_7 : decode cX4_longestOf 7 = .ok (.aload_n 0, 1) := by decide +kernel
theorem dX4_longestOf_8 : decode cX4_longestOf 8 = .ok (.iload_n 1, 1) := by decide +kernel
theorem dX4_longestOf_9 : decode cX4_longestOf 9 = .ok (.iload_n 2, 1) := by decide +kernel
theorem dX4_longestOf_10 : decode cX4_longestOf 10 = .ok (.iload_n 3, 1) := by decide +kernel
theorem dX4_longestOf_11 : decode cX4_longestOf 11 = .ok (.invokevirtual 57, 3) := by decide +kernel
theorem dX4_longestOf_14 : decode cX4_longestOf 14 = .ok (.ifCond .ge 9, 3) := by decide +kernel
theorem dX4_longestOf_17 : decode cX4_longestOf 17 = .ok (.iinc 3 (-1), 3) := by decide +kernel
theorem dX4_longestOf_20 : decode cX4_longestOf 20 = .ok (.goto (-13), 3) := by decide +kernel
theorem dX4_longestOf_23 : decode cX4_longestOf 23 = .ok (.iload_n 3, 1) := by decide +kernel
theorem dX4_longestOf_24 : decode cX4_longestOf 24 = .ok (.iload_n 2, 1) := by decide +kernel
theorem dX4_longestOf_25 : decode cX4_longestOf 25 = .ok (.isub, 1) := by decide +kernel
theorem dX4_longestOf_26 : decode cX4_longestOf 26 = .ok (.ireturn, 1) := by decide +kernel
theorem dX4_begin_0 : decode cX4_begin 0 = .ok (.iconst 0, 1) := by decide +kernel
theorem dX4_begin_1 : decode cX4_begin 1 = .ok (.istore_n 3, 1) := by decide +kernel
theorem dX4_begin_2 : decode cX4_begin 2 = .ok (.iconst 0, 1) := by decide +kernel
theorem dX4_begin_3 : decode cX4_begin 3 = .ok (.istore 4, 2) := by decide +kernel
theorem dX4_begin_5 : decode cX4_begin 5 = .ok (.iload 4, 2) := by decide +kernel
theorem dX4_begin_7 : decode cX4_begin 7 = .ok (.iload_n 2, 1) := by decide +kernel
theorem dX4_begin_8 : decode cX4_begin 8 = .ok (.if_icmp .ge 28, 3) := by decide +kernel
theorem dX4_begin_11 : decode cX4_begin 11 = .ok (.iload_n 3, 1) := by decide +kernel
theorem dX4_begin_12 : decode cX4_begin 12 = .ok (.aload_n 0, 1) := by decide +kernel
theorem dX4_begin_13 : decode cX4_begin 13 = .ok (.getfield 18, 3) := by decide +kernel
theorem dX4_begin_16 : decode cX4_begin 16 = .ok (.iload_n 1, 1) := by decide +kernel
theorem dX4_begin_17 : decode cX4_begin 17 = .ok (.iaload, 1) := by decide +kernel
theorem dX4_begin_18 : decode cX4_begin 18 = .ok (.if_icmp .ge 18, 3) := by decide +kernel
theorem dX4_begin_21 : decode cX4_begin 21 = .ok (.iload_n 3, 1) := by decide +kernel
theorem dX4_begin_22 : decode cX4_begin 22 = .ok (.aload_n 0, 1) := by decide +kernel
theorem dX4_begin_23 : decode cX4_begin 23 = .ok (.iload_n 1, 1) := by decide +kernel
theorem dX4_begin_24 : decode cX4_begin 24 = .ok (.iload_n 3, 1) := by decide +kernel
theorem dX4_begin_25 : decode cX4_begin 25 = .ok (.invokevirtual 61, 3) := by decide +kernel
theorem dX4_begin_28 : decode cX4_begin 28 = .ok (.iadd, 1) := by decide +kernel
theorem dX4_begin_29 : decode cX4_begin 29 = .ok (.istore_n 3, 1) := by decide +kernel
theorem dX4_begin_30 : decode cX4_begin 30 = .ok (.iinc 4 1, 3) := by decide +kernel
theorem dX4_begin_33 : decode cX4_begin 33 = .ok (.goto (-28), 3) := by decide +kernel
theorem dX4_begin_36 : decode cX4_begin 36 = .ok (.iload_n 3, 1) := by decide +kernel
theorem dX4_begin_37 : decode cX4_begin 37 = .ok (.aload_n 0, 1) := by decide +kernel
theorem dX4_begin_38 : decode cX4_begin 38 = .ok (.getfield 18, 3) := by decide +kernel
theorem dX4_begin_41 : decode cX4_begin 41 = .ok (.iload_n 1, 1) := by decide +kernel
theorem dX4_begin_42 : decode cX4_begin 42 = .ok (.iaload, 1) := by decide +kernel
theorem dX4_begin_43 : decode cX4_begin 43 = .ok (.if_icmp .ge 7, 3) := by decide +kernel
theorem dX4_begin_46 : decode cX4_begin 46 = .ok (.iload_n 3, 1) := by decide +kernel
theorem dX4_begin_47 : decode cX4_begin 47 = .ok (.goto 4, 3) := by decide +kernel
theorem dX4_begin_50 : decode cX4_begin 50 = .ok (.iconst (-1), 1) := by decide +kernel
theorem dX4_begin_51 : decode cX4_begin 51 = .ok (.ireturn, 1) := by decide +kernel
theorem dX4_piecesOf_0 : decode cX4_piecesOf 0 = .ok (.iconst 0, 1) := by decide +kernel
theorem dX4_piecesOf_1 : decode cX4_piecesOf 1 = .ok (.istore_n 2, 1) := by decide +kernel
theorem dX4_piecesOf_2 : decode cX4_piecesOf 2 = .ok (.iconst 0, 1) := by decide +kernel
theorem dX4_piecesOf_3 : decode cX4_piecesOf 3 = .ok (.istore_n 3, 1) := by decide +kernel
theorem dX4_piecesOf_4 : decode cX4_piecesOf 4 = .ok (.iload_n 3, 1) := by decide +kernel
theorem dX4_piecesOf_5 : decode cX4_piecesOf 5 = .ok (.aload_n 0, 1) := by decide +kernel
theorem dX4_piecesOf_6 : decode cX4_piecesOf 6 = .ok (.getfield 18, 3) := by decide +kernel
theorem dX4_piecesOf_9 : decode cX4_piecesOf 9 = .ok (.iload_n 1, 1) := by decide +kernel
theorem dX4_piecesOf_10 : decode cX4_piecesOf 10 = .ok (.iaload, 1) := by decide +kernel
theorem dX4_piecesOf_11 : decode cX4_piecesOf 11 = .ok (.if_icmp .ge 18, 3) := by decide +kernel
theorem dX4_piecesOf_14 : decode cX4_piecesOf 14 = .ok (.iinc 2 1, 3) := by decide +kernel
theorem dX4_piecesOf_17 : decode cX4_piecesOf 17 = .ok (.iload_n 3, 1) := by decide +kernel
theorem dX4_piecesOf_18 : decode cX4_piecesOf 18 = .ok (.aload_n 0, 1) := by decide +kernel
theorem dX4_piecesOf_19 : decode cX4_piecesOf 19 = .ok (.iload_n 1, 1) := by decide +kernel
theorem dX4_piecesOf_20 : decode cX4_piecesOf 20 = .ok (.iload_n 3, 1) := by decide +kernel
theorem dX4_piecesOf_21 : decode cX4_piecesOf 21 = .ok (.invokevirtual 61, 3) := by decide +kernel
theorem dX4_piecesOf_24 : decode cX4_piecesOf 24 = .ok (.iadd, 1) := by decide +kernel
theorem dX4_piecesOf_25 : decode cX4_piecesOf 25 = .ok (.istore_n 3, 1) := by decide +kernel
theorem dX4_piecesOf_26 : decode cX4_piecesOf 26 = .ok (.goto (-22), 3) := by decide +kernel
theorem dX4_piecesOf_29 : decode cX4_piecesOf 29 = .ok (.iload_n 2, 1) := by decide +kernel
theorem dX4_piecesOf_30 : decode cX4_piecesOf 30 = .ok (.ireturn, 1) := by decide +kernel
theorem dX4_cutsOf_0 : decode cX4_cutsOf 0 = .ok (.iconst 0, 1) := by decide +kernel
theorem dX4_cutsOf_1 : decode cX4_cutsOf 1 = .ok (.istore_n 2, 1) := by decide +kernel
theorem dX4_cutsOf_2 : decode cX4_cutsOf 2 = .ok (.iconst 0, 1) := by decide +kernel
theorem dX4_cutsOf_3 : decode cX4_cutsOf 3 = .ok (.istore_n 3, 1) := by decide +kernel
theorem dX4_cutsOf_4 : decode cX4_cutsOf 4 = .ok (.iload_n 3, 1) := by decide +kernel
theorem dX4_cutsOf_5 : decode cX4_cutsOf 5 = .ok (.aload_n 0, 1) := by decide +kernel
theorem dX4_cutsOf_6 : decode cX4_cutsOf 6 = .ok (.getfield 18, 3) := by decide +kernel
theorem dX4_cutsOf_9 : decode cX4_cutsOf 9 = .ok (.iload_n 1, 1) := by decide +kernel
theorem dX4_cutsOf_10 : decode cX4_cutsOf 10 = .ok (.iaload, 1) := by decide +kernel
theorem dX4_cutsOf_11 : decode cX4_cutsOf 11 = .ok (.if_icmp .ge 29, 3) := by decide +kernel
theorem dX4_cutsOf_14 : decode cX4_cutsOf 14 = .ok (.iload_n 2, 1) := by decide +kernel
theorem dX4_cutsOf_15 : decode cX4_cutsOf 15 = .ok (.iload_n 3, 1) := by decide +kernel
theorem dX4_cutsOf_16 : decode cX4_cutsOf 16 = .ok (.ifCond .ne 7, 3) := by decide +kernel
theorem dX4_cutsOf_19 : decode cX4_cutsOf 19 = .ok (.iconst 0, 1) := by decide +kernel
theorem dX4_cutsOf_20 : decode cX4_cutsOf 20 = .ok (.goto 6, 3) := by decide +kernel
theorem dX4_cutsOf_23 : decode cX4_cutsOf 23 = .ok (.iconst 1, 1) := by decide +kernel
theorem dX4_cutsOf_24 : decode cX4_cutsOf 24 = .ok (.iload_n 3, 1) := by decide +kernel
theorem dX4_cutsOf_25 : decode cX4_cutsOf 25 = .ok (.ishl, 1) := by decide +kernel
theorem dX4_cutsOf_26 : decode cX4_cutsOf 26 = .ok (.ior, 1) := by decide +kernel
theorem dX4_cutsOf_27 : decode cX4_cutsOf 27 = .ok (.istore_n 2, 1) := by decide +kernel
theorem dX4_cutsOf_28 : decode cX4_cutsOf 28 = .ok (.iload_n 3, 1) := by decide +kernel
theorem dX4_cutsOf_29 : decode cX4_cutsOf 29 = .ok (.aload_n 0, 1) := by decide +kernel
theorem dX4_cutsOf_30 : decode cX4_cutsOf 30 = .ok (.iload_n 1, 1) := by decide +kernel
theorem dX4_cutsOf_31 : decode cX4_cutsOf 31 = .ok (.iload_n 3, 1) := by decide +kernel
theorem dX4_cutsOf_32 : decode cX4_cutsOf 32 = .ok (.invokevirtual 61, 3) := by decide +kernel
theorem dX4_cutsOf_35 : decode cX4_cutsOf 35 = .ok (.iadd, 1) := by decide +kernel
theorem dX4_cutsOf_36 : decode cX4_cutsOf 36 = .ok (.istore_n 3, 1) := by decide +kernel
theorem dX4_cutsOf_37 : decode cX4_cutsOf 37 = .ok (.goto (-33), 3) := by decide +kernel
theorem dX4_cutsOf_40 : decode cX4_cutsOf 40 = .ok (.iload_n 2, 1) := by decide +kernel
theorem dX4_cutsOf_41 : decode cX4_cutsOf 41 = .ok (.ireturn, 1) := by decide +kernel
theorem dX4_backOf_0 : decode cX4_backOf 0 = .ok (.iconst 0, 1) := by decide +kernel
theorem dX4_backOf_1 : decode cX4_backOf 1 = .ok (.istore_n 2, 1) := by decide +kernel
theorem dX4_backOf_2 : decode cX4_backOf 2 = .ok (.aload_n 0, 1) := by decide +kernel
theorem dX4_backOf_3 : decode cX4_backOf 3 = .ok (.getfield 18, 3) := by decide +kernel
theorem dX4_backOf_6 : decode cX4_backOf 6 = .ok (.iload_n 1, 1) := by decide +kernel
theorem dX4_backOf_7 : decode cX4_backOf 7 = .ok (.iaload, 1) := by decide +kernel
theorem dX4_backOf_8 : decode cX4_backOf 8 = .ok (.istore_n 3, 1) := by decide +kernel
theorem dX4_backOf_9 : decode cX4_backOf 9 = .ok (.iload_n 3, 1) := by decide +kernel
theorem dX4_backOf_10 : decode cX4_backOf 10 = .ok (.ifCond .le 45, 3) := by decide +kernel
theorem dX4_backOf_13 : decode cX4_backOf 13 = .ok (.iconst 0, 1) := by decide +kernel
theorem dX4_backOf_14 : decode cX4_backOf 14 = .ok (.istore 4, 2) := by decide +kernel
theorem dX4_backOf_16 : decode cX4_backOf 16 = .ok (.aload_n 0, 1) := by decide +kernel
theorem dX4_backOf_17 : decode cX4_backOf 17 = .ok (.iload_n 1, 1) := by decide +kernel
theorem dX4_backOf_18 : decode cX4_backOf 18 = .ok (.iload 4, 2) := by decide +kernel
theorem dX4_backOf_20 : decode cX4_backOf 20 = .ok (.iload_n 3, 1) := by decide +kernel
theorem dX4_backOf_21 : decode cX4_backOf 21 = .ok (.invokevirtual 57, 3) := by decide +kernel
theorem dX4_backOf_24 : decode cX4_backOf 24 = .ok (.ifCond .ge 9, 3) := by decide +kernel
theorem dX4_backOf_27 : decode cX4_backOf 27 = .ok (.iinc 4 1, 3) := by decide +kernel
theorem dX4_backOf_30 : decode cX4_backOf 30 = .ok (.goto (-14), 3) := by decide +kernel
theorem dX4_backOf_33 : decode cX4_backOf 33 = .ok (.iload_n 2, 1) := by decide +kernel
theorem dX4_backOf_34 : decode cX4_backOf 34 = .ok (.iload 4, 2) := by decide +kernel
theorem dX4_backOf_36 : decode cX4_backOf 36 = .ok (.ifCond .ne 7, 3) := by decide +kernel
theorem dX4_backOf_39 : decode cX4_backOf 39 = .ok (.iconst 0, 1) := by decide +kernel
theorem dX4_backOf_40 : decode cX4_backOf 40 = .ok (.goto 7, 3) := by decide +kernel
theorem dX4_backOf_43 : decode cX4_backOf 43 = .ok (.iconst 1, 1) := by decide +kernel
theorem dX4_backOf_44 : decode cX4_backOf 44 = .ok (.iload 4, 2) := by decide +kernel
theorem dX4_backOf_46 : decode cX4_backOf 46 = .ok (.ishl, 1) := by decide +kernel
theorem dX4_backOf_47 : decode cX4_backOf 47 = .ok (.ior, 1) := by decide +kernel
theorem dX4_backOf_48 : decode cX4_backOf 48 = .ok (.istore_n 2, 1) := by decide +kernel
theorem dX4_backOf_49 : decode cX4_backOf 49 = .ok (.iload 4, 2) := by decide +kernel
theorem dX4_backOf_51 : decode cX4_backOf 51 = .ok (.istore_n 3, 1) := by decide +kernel
theorem dX4_backOf_52 : decode cX4_backOf 52 = .ok (.goto (-43), 3) := by decide +kernel
theorem dX4_backOf_55 : decode cX4_backOf 55 = .ok (.iload_n 2, 1) := by decide +kernel
theorem dX4_backOf_56 : decode cX4_backOf 56 = .ok (.ireturn, 1) := by decide +kernel
theorem dX4_fewestOf_0 : decode cX4_fewestOf 0 = .ok (.aload_n 0, 1) := by decide +kernel
theorem dX4_fewestOf_1 : decode cX4_fewestOf 1 = .ok (.getfield 18, 3) := by decide +kernel
theorem dX4_fewestOf_4 : decode cX4_fewestOf 4 = .ok (.iload_n 1, 1) := by decide +kernel
theorem dX4_fewestOf_5 : decode cX4_fewestOf 5 = .ok (.iaload, 1) := by decide +kernel
theorem dX4_fewestOf_6 : decode cX4_fewestOf 6 = .ok (.iconst 1, 1) := by decide +kernel
theorem dX4_fewestOf_7 : decode cX4_fewestOf 7 = .ok (.iadd, 1) := by decide +kernel
theorem dX4_fewestOf_8 : decode cX4_fewestOf 8 = .ok (.newarray .int, 2) := by decide +kernel
theorem dX4_fewestOf_10 : decode cX4_fewestOf 10 = .ok (.astore_n 2, 1) := by decide +kernel
theorem dX4_fewestOf_11 : decode cX4_fewestOf 11 = .ok (.iconst 1, 1) := by decide +kernel
theorem dX4_fewestOf_12 : decode cX4_fewestOf 12 = .ok (.istore_n 3, 1) := by decide +kernel
theorem dX4_fewestOf_13 : decode cX4_fewestOf 13 = .ok (.iload_n 3, 1) := by decide +kernel
theorem dX4_fewestOf_14 : decode cX4_fewestOf 14 = .ok (.aload_n 2, 1) := by decide +kernel
theorem dX4_fewestOf_15 : decode cX4_fewestOf 15 = .ok (.arraylength, 1) := by decide +kernel
theorem dX4_fewestOf_16 : decode cX4_fewestOf 16 = .ok (.if_icmp .ge 55, 3) := by decide +kernel
theorem dX4_fewestOf_19 : decode cX4_fewestOf 19 = .ok (.aload_n 2, 1) := by decide +kernel
theorem dX4_fewestOf_20 : decode cX4_fewestOf 20 = .ok (.iload_n 3, 1) := by decide +kernel
theorem dX4_fewestOf_21 : decode cX4_fewestOf 21 = .ok (.bipush 31, 2) := by decide +kernel
theorem dX4_fewestOf_23 : decode cX4_fewestOf 23 = .ok (.iastore, 1) := by decide +kernel
theorem dX4_fewestOf_24 : decode cX4_fewestOf 24 = .ok (.iconst 0, 1) := by decide +kernel
theorem dX4_fewestOf_25 : decode cX4_fewestOf 25 = .ok (.istore 4, 2) := by decide +kernel
theorem dX4_fewestOf_27 : decode cX4_fewestOf 27 = .ok (.iload 4, 2) := by decide +kernel
theorem dX4_fewestOf_29 : decode cX4_fewestOf 29 = .ok (.iload_n 3, 1) := by decide +kernel
theorem dX4_fewestOf_30 : decode cX4_fewestOf 30 = .ok (.if_icmp .ge 35, 3) := by decide +kernel
theorem dX4_fewestOf_33 : decode cX4_fewestOf 33 = .ok (.aload_n 0, 1) := by decide +kernel
theorem dX4_fewestOf_34 : decode cX4_fewestOf 34 = .ok (.iload_n 1, 1) := by decide +kernel
theorem dX4_fewestOf_35 : decode cX4_fewestOf 35 = .ok (.iload 4, 2) := by decide +kernel
theorem dX4_fewestOf_37 : decode cX4_fewestOf 37 = .ok (.iload_n 3, 1) := by decide +kernel
theorem dX4_fewestOf_38 : decode cX4_fewestOf 38 = .ok (.invokevirtual 57, 3) := by decide +kernel
theorem dX4_fewestOf_41 : decode cX4_fewestOf 41 = .ok (.ifCond .lt 18, 3) := by decide +kernel
theorem dX4_fewestOf_44 : decode cX4_fewestOf 44 = .ok (.aload_n 2, 1) := by decide +kernel
theorem dX4_fewestOf_45 : decode cX4_fewestOf 45 = .ok (.iload_n 3, 1) := by decide +kernel
theorem dX4_fewestOf_46 : decode cX4_fewestOf 46 = .ok (.aload_n 2, 1) := by decide +kernel
theorem dX4_fewestOf_47 : decode cX4_fewestOf 47 = .ok (.iload_n 3, 1) := by decide +kernel
theorem dX4_fewestOf_48 : decode cX4_fewestOf 48 = .ok (.iaload, 1) := by decide +kernel
theorem dX4_fewestOf_49 : decode cX4_fewestOf 49 = .ok (.aload_n 2, 1) := by decide +kernel
theorem dX4_fewestOf_50 : decode cX4_fewestOf 50 = .ok (.iload 4, 2) := by decide +kernel
theorem dX4_fewestOf_52 : decode cX4_fewestOf 52 = .ok (.iaload, 1) := by decide +kernel
theorem dX4_fewestOf_53 : decode cX4_fewestOf 53 = .ok (.iconst 1, 1) := by decide +kernel
theorem dX4_fewestOf_54 : decode cX4_fewestOf 54 = .ok (.iadd, 1) := by decide +kernel
theorem dX4_fewestOf_55 : decode cX4_fewestOf 55 = .ok (.invokestatic 65, 3) := by decide +kernel
theorem dX4_fewestOf_58 : decode cX4_fewestOf 58 = .ok (.iastore, 1) := by decide +kernel
theorem dX4_fewestOf_59 : decode cX4_fewestOf 59 = .ok (.iinc 4 1, 3) := by decide +kernel
theorem dX4_fewestOf_62 : decode cX4_fewestOf 62 = .ok (.goto (-35), 3) := by decide +kernel
theorem dX4_fewestOf_65 : decode cX4_fewestOf 65 = .ok (.iinc 3 1, 3) := by decide +kernel
theorem dX4_fewestOf_68 : decode cX4_fewestOf 68 = .ok (.goto (-55), 3) := by decide +kernel
theorem dX4_fewestOf_71 : decode cX4_fewestOf 71 = .ok (.aload_n 2, 1) := by decide +kernel
theorem dX4_fewestOf_72 : decode cX4_fewestOf 72 = .ok (.aload_n 0, 1) := by decide +kernel
theorem dX4_fewestOf_73 : decode cX4_fewestOf 73 = .ok (.getfield 18, 3) := by decide +kernel
theorem dX4_fewestOf_76 : decode cX4_fewestOf 76 = .ok (.iload_n 1, 1) := by decide +kernel
theorem dX4_fewestOf_77 : decode cX4_fewestOf 77 = .ok (.iaload, 1) := by decide +kernel
theorem dX4_fewestOf_78 : decode cX4_fewestOf 78 = .ok (.iaload, 1) := by decide +kernel
theorem dX4_fewestOf_79 : decode cX4_fewestOf 79 = .ok (.ireturn, 1) := by decide +kernel
theorem dX4_partedOf_0 : decode cX4_partedOf 0 = .ok (.iconst 0, 1) := by decide +kernel
theorem dX4_partedOf_1 : decode cX4_partedOf 1 = .ok (.istore_n 3, 1) := by decide +kernel
theorem dX4_partedOf_2 : decode cX4_partedOf 2 = .ok (.iconst 0, 1) := by decide +kernel
theorem dX4_partedOf_3 : decode cX4_partedOf 3 = .ok (.istore 4, 2) := by decide +kernel
theorem dX4_partedOf_5 : decode cX4_partedOf 5 = .ok (.iconst 1, 1) := by decide +kernel
theorem dX4_partedOf_6 : decode cX4_partedOf 6 = .ok (.istore 5, 2) := by decide +kernel
theorem dX4_partedOf_8 : decode cX4_partedOf 8 = .ok (.iload 5, 2) := by decide +kernel
theorem dX4_partedOf_10 : decode cX4_partedOf 10 = .ok (.aload_n 0, 1) := by decide +kernel
theorem dX4_partedOf_11 : decode cX4_partedOf 11 = .ok (.getfield 18, 3) := by decide +kernel
theorem dX4_partedOf_14 : decode cX4_partedOf 14 = .ok (.iload_n 1, 1) := by decide +kernel
theorem dX4_partedOf_15 : decode cX4_partedOf 15 = .ok (.iaload, 1) := by decide +kernel
theorem dX4_partedOf_16 : decode cX4_partedOf 16 = .ok (.if_icmp .gt 53, 3) := by decide +kernel
theorem dX4_partedOf_19 : decode cX4_partedOf 19 = .ok (.iload 5, 2) := by decide +kernel
theorem dX4_partedOf_21 : decode cX4_partedOf 21 = .ok (.aload_n 0, 1) := by decide +kernel
theorem dX4_partedOf_22 : decode cX4_partedOf 22 = .ok (.getfield 18, 3) := by decide +kernel
theorem dX4_partedOf_25 : decode cX4_partedOf 25 = .ok (.iload_n 1, 1) := by decide +kernel
theorem dX4_partedOf_26 : decode cX4_partedOf 26 = .ok (.iaload, 1) := by decide +kernel
theorem dX4_partedOf_27 : decode cX4_partedOf 27 = .ok (.if_icmp .ge 15, 3) := by decide +kernel
theorem dX4_partedOf_30 : decode cX4_partedOf 30 = .ok (.iload_n 2, 1) := by decide +kernel
theorem dX4_partedOf_31 : decode cX4_partedOf 31 = .ok (.iload 5, 2) := by decide +kernel
theorem dX4_partedOf_33 : decode cX4_partedOf 33 = .ok (.ishr, 1) := by decide +kernel
theorem dX4_partedOf_34 : decode cX4_partedOf 34 = .ok (.iconst 1, 1) := by decide +kernel
theorem dX4_partedOf_35 : decode cX4_partedOf 35 = .ok (.iand, 1) := by decide +kernel
theorem dX4_partedOf_36 : decode cX4_partedOf 36 = .ok (.ifCond .ne 6, 3) := by decide +kernel
theorem dX4_partedOf_39 : decode cX4_partedOf 39 = .ok (.goto 24, 3) := by decide +kernel
theorem dX4_partedOf_42 : decode cX4_partedOf 42 = .ok (.aload_n 0, 1) := by decide +kernel
theorem dX4_partedOf_43 : decode cX4_partedOf 43 = .ok (.iload_n 1, 1) := by decide +kernel
theorem dX4_partedOf_44 : decode cX4_partedOf 44 = .ok (.iload 4, 2) := by decide +kernel
theorem dX4_partedOf_46 : decode cX4_partedOf 46 = .ok (.iload 5, 2) := by decide +kernel
theorem dX4_partedOf_48 : decode cX4_partedOf 48 = .ok (.invokevirtual 57, 3) := by decide +kernel
theorem dX4_partedOf_51 : decode cX4_partedOf 51 = .ok (.ifCond .ge 5, 3) := by decide +kernel
theorem dX4_partedOf_54 : decode cX4_partedOf 54 = .ok (.iconst (-1), 1) := by decide +kernel
theorem dX4_partedOf_55 : decode cX4_partedOf 55 = .ok (.ireturn, 1) := by decide +kernel
theorem dX4_partedOf_56 : decode cX4_partedOf 56 = .ok (.iinc 3 1, 3) := by decide +kernel
theorem dX4_partedOf_59 : decode cX4_partedOf 59 = .ok (.iload 5, 2) := by decide +kernel
theorem dX4_partedOf_61 : decode cX4_partedOf 61 = .ok (.istore 4, 2) := by decide +kernel
theorem dX4_partedOf_63 : decode cX4_partedOf 63 = .ok (.iinc 5 1, 3) := by decide +kernel
theorem dX4_partedOf_66 : decode cX4_partedOf 66 = .ok (.goto (-58), 3) := by decide +kernel
theorem dX4_partedOf_69 : decode cX4_partedOf 69 = .ok (.iload_n 3, 1) := by decide +kernel
theorem dX4_partedOf_70 : decode cX4_partedOf 70 = .ok (.ireturn, 1) := by decide +kernel
theorem dX4_faultOf_0 : decode cX4_faultOf 0 = .ok (.iconst 0, 1) := by decide +kernel
theorem dX4_faultOf_1 : decode cX4_faultOf 1 = .ok (.istore_n 2, 1) := by decide +kernel
theorem dX4_faultOf_2 : decode cX4_faultOf 2 = .ok (.iload_n 2, 1) := by decide +kernel
theorem dX4_faultOf_3 : decode cX4_faultOf 3 = .ok (.aload_n 0, 1) := by decide +kernel
theorem dX4_faultOf_4 : decode cX4_faultOf 4 = .ok (.getfield 18, 3) := by decide +kernel
theorem dX4_faultOf_7 : decode cX4_faultOf 7 = .ok (.iload_n 1, 1) := by decide +kernel
theorem dX4_faultOf_8 : decode cX4_faultOf 8 = .ok (.iaload, 1) := by decide +kernel
theorem dX4_faultOf_9 : decode cX4_faultOf 9 = .ok (.if_icmp .ge 37, 3) := by decide +kernel
theorem dX4_faultOf_12 : decode cX4_faultOf 12 = .ok (.aload_n 0, 1) := by decide +kernel
theorem dX4_faultOf_13 : decode cX4_faultOf 13 = .ok (.aload_n 0, 1) := by decide +kernel
theorem dX4_faultOf_14 : decode cX4_faultOf 14 = .ok (.getfield 15, 3) := by decide +kernel
theorem dX4_faultOf_17 : decode cX4_faultOf 17 = .ok (.iload_n 1, 1) := by decide +kernel
theorem dX4_faultOf_18 : decode cX4_faultOf 18 = .ok (.aaload, 1) := by decide +kernel
theorem dX4_faultOf_19 : decode cX4_faultOf 19 = .ok (.iload_n 2, 1) := by decide +kernel
theorem dX4_faultOf_20 : decode cX4_faultOf 20 = .ok (.iaload, 1) := by decide +kernel
theorem dX4_faultOf_21 : decode cX4_faultOf 21 = .ok (.iload_n 2, 1) := by decide +kernel
theorem dX4_faultOf_22 : decode cX4_faultOf 22 = .ok (.ifCond .ne 8, 3) := by decide +kernel
theorem dX4_faultOf_25 : decode cX4_faultOf 25 = .ok (.bipush 11, 2) := by decide +kernel
theorem dX4_faultOf_27 : decode cX4_faultOf 27 = .ok (.goto 5, 3) := by decide +kernel
theorem dX4_faultOf_30 : decode cX4_faultOf 30 = .ok (.bipush 12, 2) := by decide +kernel
theorem dX4_faultOf_32 : decode cX4_faultOf 32 = .ok (.invokevirtual 45, 3) := by decide +kernel
theorem dX4_faultOf_35 : decode cX4_faultOf 35 = .ok (.ifCond .ne 5, 3) := by decide +kernel
theorem dX4_faultOf_38 : decode cX4_faultOf 38 = .ok (.iload_n 2, 1) := by decide +kernel
theorem dX4_faultOf_39 : decode cX4_faultOf 39 = .ok (.ireturn, 1) := by decide +kernel
theorem dX4_faultOf_40 : decode cX4_faultOf 40 = .ok (.iinc 2 1, 3) := by decide +kernel
theorem dX4_faultOf_43 : decode cX4_faultOf 43 = .ok (.goto (-41), 3) := by decide +kernel
theorem dX4_faultOf_46 : decode cX4_faultOf 46 = .ok (.aload_n 0, 1) := by decide +kernel
theorem dX4_faultOf_47 : decode cX4_faultOf 47 = .ok (.getfield 18, 3) := by decide +kernel
theorem dX4_faultOf_50 : decode cX4_faultOf 50 = .ok (.iload_n 1, 1) := by decide +kernel
theorem dX4_faultOf_51 : decode cX4_faultOf 51 = .ok (.iaload, 1) := by decide +kernel
theorem dX4_faultOf_52 : decode cX4_faultOf 52 = .ok (.ifCond .ne 7, 3) := by decide +kernel
theorem dX4_faultOf_55 : decode cX4_faultOf 55 = .ok (.iconst 0, 1) := by decide +kernel
theorem dX4_faultOf_56 : decode cX4_faultOf 56 = .ok (.goto 4, 3) := by decide +kernel
theorem dX4_faultOf_59 : decode cX4_faultOf 59 = .ok (.iconst (-1), 1) := by decide +kernel
theorem dX4_faultOf_60 : decode cX4_faultOf 60 = .ok (.ireturn, 1) := by decide +kernel
theorem dX4_is_0 : decode cX4_is 0 = .ok (.iload_n 0, 1) := by decide +kernel
theorem dX4_is_1 : decode cX4_is 1 = .ok (.ifCond .lt 12, 3) := by decide +kernel
theorem dX4_is_4 : decode cX4_is 4 = .ok (.iload_n 0, 1) := by decide +kernel
theorem dX4_is_5 : decode cX4_is 5 = .ok (.iconst 3, 1) := by decide +kernel
theorem dX4_is_6 : decode cX4_is 6 = .ok (.if_icmp .ge 7, 3) := by decide +kernel
theorem dX4_is_9 : decode cX4_is 9 = .ok (.iconst 1, 1) := by decide +kernel
theorem dX4_is_10 : decode cX4_is 10 = .ok (.goto 4, 3) := by decide +kernel
theorem dX4_is_13 : decode cX4_is 13 = .ok (.iconst 0, 1) := by decide +kernel
theorem dX4_is_14 : decode cX4_is 14 = .ok (.ireturn, 1) := by decide +kernel
theorem dX4_isSign_0 : decode cX4_isSign 0 = .ok (.iload_n 0, 1) := by decide +kernel
theorem dX4_isSign_1 : decode cX4_isSign 1 = .ok (.ifCond .lt 14, 3) := by decide +kernel
theorem dX4_isSign_4 : decode cX4_isSign 4 = .ok (.iload_n 0, 1) := by decide +kernel
theorem dX4_isSign_5 : decode cX4_isSign 5 = .ok (.sipush 256, 3) := by decide +kernel
theorem dX4_isSign_8 : decode cX4_isSign 8 = .ok (.if_icmp .ge 7, 3) := by decide +kernel
theorem dX4_isSign_11 : decode cX4_isSign 11 = .ok (.iconst 1, 1) := by decide +kernel
theorem dX4_isSign_12 : decode cX4_isSign 12 = .ok (.goto 4, 3) := by decide +kernel
theorem dX4_isSign_15 : decode cX4_isSign 15 = .ok (.iconst 0, 1) := by decide +kernel
theorem dX4_isSign_16 : decode cX4_isSign 16 = .ok (.ireturn, 1) := by decide +kernel
theorem dX4_isQuestion_0 : decode cX4_isQuestion 0 = .ok (.iload_n 0, 1) := by decide +kernel
theorem dX4_isQuestion_1 : decode cX4_isQuestion 1 = .ok (.ifCond .lt 13, 3) := by decide +kernel
theorem dX4_isQuestion_4 : decode cX4_isQuestion 4 = .ok (.iload_n 0, 1) := by decide +kernel
theorem dX4_isQuestion_5 : decode cX4_isQuestion 5 = .ok (.bipush 14, 2) := by decide +kernel
theorem dX4_isQuestion_7 : decode cX4_isQuestion 7 = .ok (.if_icmp .ge 7, 3) := by decide +kernel
theorem dX4_isQuestion_10 : decode cX4_isQuestion 10 = .ok (.iconst 1, 1) := by decide +kernel
theorem dX4_isQuestion_11 : decode cX4_isQuestion 11 = .ok (.goto 4, 3) := by decide +kernel
theorem dX4_isQuestion_14 : decode cX4_isQuestion 14 = .ok (.iconst 0, 1) := by decide +kernel
theorem dX4_isQuestion_15 : decode cX4_isQuestion 15 = .ok (.ireturn, 1) := by decide +kernel
theorem dX4_isKind_0 : decode cX4_isKind 0 = .ok (.iload_n 0, 1) := by decide +kernel
theorem dX4_isKind_1 : decode cX4_isKind 1 = .ok (.ifCond .lt 13, 3) := by decide +kernel
theorem dX4_isKind_4 : decode cX4_isKind 4 = .ok (.iload_n 0, 1) := by decide +kernel
theorem dX4_isKind_5 : decode cX4_isKind 5 = .ok (.bipush 31, 2) := by decide +kernel
theorem dX4_isKind_7 : decode cX4_isKind 7 = .ok (.if_icmp .ge 7, 3) := by decide +kernel
theorem dX4_isKind_10 : decode cX4_isKind 10 = .ok (.iconst 1, 1) := by decide +kernel
theorem dX4_isKind_11 : decode cX4_isKind 11 = .ok (.goto 4, 3) := by decide +kernel
theorem dX4_isKind_14 : decode cX4_isKind 14 = .ok (.iconst 0, 1) := by decide +kernel
theorem dX4_isKind_15 : decode cX4_isKind 15 = .ok (.ireturn, 1) := by decide +kernel
theorem dX4_isPlace_0 : decode cX4_isPlace 0 = .ok (.iload_n 1, 1) := by decide +kernel
theorem dX4_isPlace_1 : decode cX4_isPlace 1 = .ok (.invokestatic 70, 3) := by decide +kernel
theorem dX4_isPlace_4 : decode cX4_isPlace 4 = .ok (.ifCond .eq 21, 3) := by decide +kernel
theorem dX4_isPlace_7 : decode cX4_isPlace 7 = .ok (.iload_n 2, 1) := by decide +kernel
theorem dX4_isPlace_8 : decode cX4_isPlace 8 = .ok (.ifCond .lt 17, 3) := by decide +kernel
theorem dX4_isPlace_11 : decode cX4_isPlace 11 = .ok (.iload_n 2, 1) := by decide +kernel
theorem dX4_isPlace_12 : decode cX4_isPlace 12 = .ok (.aload_n 0, 1) := by decide +kernel
theorem dX4_isPlace_13 : decode cX4_isPlace 13 = .ok (.getfield 18, 3) := by decide +kernel
theorem dX4_isPlace_16 : decode cX4_isPlace 16 = .ok (.iload_n 1, 1) := by decide +kernel
theorem dX4_isPlace_17 : decode cX4_isPlace 17 = .ok (.iaload, 1) := by decide +kernel
theorem dX4_isPlace_18 : decode cX4_isPlace 18 = .ok (.if_icmp .ge 7, 3) := by decide +kernel
theorem dX4_isPlace_21 : decode cX4_isPlace 21 = .ok (.iconst 1, 1) := by decide +kernel
theorem dX4_isPlace_22 : decode cX4_isPlace 22 = .ok (.goto 4, 3) := by decide +kernel
theorem dX4_isPlace_25 : decode cX4_isPlace 25 = .ok (.iconst 0, 1) := by decide +kernel
theorem dX4_isPlace_26 : decode cX4_isPlace 26 = .ok (.ireturn, 1) := by decide +kernel
theorem dX4_isThrown_0 : decode cX4_isThrown 0 = .ok (.aload_n 0, 1) := by decide +kernel
theorem dX4_isThrown_1 : decode cX4_isThrown 1 = .ok (.iload_n 1, 1) := by decide +kernel
theorem dX4_isThrown_2 : decode cX4_isThrown 2 = .ok (.ifCond .eq 7, 3) := by decide +kernel
theorem dX4_isThrown_5 : decode cX4_isThrown 5 = .ok (.iconst 1, 1) := by decide +kernel
theorem dX4_isThrown_6 : decode cX4_isThrown 6 = .ok (.goto 12, 3) := by decide +kernel
theorem dX4_isThrown_9 : decode cX4_isThrown 9 = .ok (.iload_n 2, 1) := by decide +kernel
theorem dX4_isThrown_10 : decode cX4_isThrown 10 = .ok (.ifCond .eq 7, 3) := by decide +kernel
theorem dX4_isThrown_13 : decode cX4_isThrown 13 = .ok (.iconst 2, 1) := by decide +kernel
theorem dX4_isThrown_14 : decode cX4_isThrown 14 = .ok (.goto 4, 3) := by decide +kernel
theorem dX4_isThrown_17 : decode cX4_isThrown 17 = .ok (.iconst 0, 1) := by decide +kernel
theorem dX4_isThrown_18 : decode cX4_isThrown 18 = .ok (.putfield 30, 3) := by decide +kernel
theorem dX4_isThrown_21 : decode cX4_isThrown 21 = .ok (.aload_n 0, 1) := by decide +kernel
theorem dX4_isThrown_22 : decode cX4_isThrown 22 = .ok (.getfield 30, 3) := by decide +kernel
theorem dX4_isThrown_25 : decode cX4_isThrown 25 = .ok (.ifCond .le 7, 3) := by decide +kernel
theorem dX4_isThrown_28 : decode cX4_isThrown 28 = .ok (.iconst 1, 1) := by decide +kernel
theorem dX4_isThrown_29 : decode cX4_isThrown 29 = .ok (.goto 4, 3) := by decide +kernel
theorem dX4_isThrown_32 : decode cX4_isThrown 32 = .ok (.iconst 0, 1) := by decide +kernel
theorem dX4_isThrown_33 : decode cX4_isThrown 33 = .ok (.ireturn, 1) := by decide +kernel
theorem dX4_isThrown__0 : decode cX4_isThrown_ 0 = .ok (.aload_n 0, 1) := by decide +kernel
theorem dX4_isThrown__1 : decode cX4_isThrown_ 1 = .ok (.iload_n 1, 1) := by decide +kernel
theorem dX4_isThrown__2 : decode cX4_isThrown_ 2 = .ok (.iconst 0, 1) := by decide +kernel
theorem dX4_isThrown__3 : decode cX4_isThrown_ 3 = .ok (.invokevirtual 73, 3) := by decide +kernel
theorem dX4_isThrown__6 : decode cX4_isThrown_ 6 = .ok (.ireturn, 1) := by decide +kernel
theorem dX4_done_0 : decode cX4_done 0 = .ok (.aload_n 0, 1) := by decide +kernel
theorem dX4_done_1 : decode cX4_done 1 = .ok (.dup, 1) := by decide +kernel
theorem dX4_done_2 : decode cX4_done 2 = .ok (.getfield 77, 3) := by decide +kernel
theorem dX4_done_5 : decode cX4_done 5 = .ok (.iconst 1, 1) := by decide +kernel
theorem dX4_done_6 : decode cX4_done 6 = .ok (.iadd, 1) := by decide +kernel
theorem dX4_done_7 : decode cX4_done 7 = .ok (.putfield 77, 3) := by decide +kernel
theorem dX4_done_10 : decode cX4_done 10 = .ok (.iload_n 1, 1) := by decide +kernel
theorem dX4_done_11 : decode cX4_done 11 = .ok (.ireturn, 1) := by decide +kernel
theorem dX4_no_0 : decode cX4_no 0 = .ok (.aload_n 0, 1) := by decide +kernel
theorem dX4_no_1 : decode cX4_no 1 = .ok (.dup, 1) := by decide +kernel
theorem dX4_no_2 : decode cX4_no 2 = .ok (.getfield 80, 3) := by decide +kernel
theorem dX4_no_5 : decode cX4_no 5 = .ok (.iconst 1, 1) := by decide +kernel
theorem dX4_no_6 : decode cX4_no 6 = .ok (.iadd, 1) := by decide +kernel
theorem dX4_no_7 : decode cX4_no 7 = .ok (.putfield 80, 3) := by decide +kernel
theorem dX4_no_10 : decode cX4_no 10 = .ok (.bipush (-9), 2) := by decide +kernel
theorem dX4_no_12 : decode cX4_no 12 = .ok (.ireturn, 1) := by decide +kernel
theorem dX4_become_0 : decode cX4_become 0 = .ok (.bipush 30, 2) := by decide +kernel
theorem dX4_become_2 : decode cX4_become 2 = .ok (.newarray .int, 2) := by decide +kernel
theorem dX4_become_4 : decode cX4_become 4 = .ok (.astore 4, 2) := by decide +kernel
theorem dX4_become_6 : decode cX4_become 6 = .ok (.iconst 0, 1) := by decide +kernel
theorem dX4_become_7 : decode cX4_become 7 = .ok (.istore 5, 2) := by decide +kernel
theorem dX4_become_9 : decode cX4_become 9 = .ok (.iload 5, 2) := by decide +kernel
theorem dX4_become_11 : decode cX4_become 11 = .ok (.iload_n 3, 1) := by decide +kernel
theorem dX4_become_12 : decode cX4_become 12 = .ok (.if_icmp .ge 18, 3) := by decide +kernel
theorem dX4_become_15 : decode cX4_become 15 = .ok (.aload 4, 2) := by decide +kernel
theorem dX4_become_17 : decode cX4_become 17 = .ok (.iload 5, 2) := by decide +kernel
theorem dX4_become_19 : decode cX4_become 19 = .ok (.aload_n 2, 1) := by decide +kernel
theorem dX4_become_20 : decode cX4_become 20 = .ok (.iload 5, 2) := by decide +kernel
theorem dX4_become_22 : decode cX4_become 22 = .ok (.iaload, 1) := by decide +kernel
theorem dX4_become_23 : decode cX4_become 23 = .ok (.iastore, 1) := by decide +kernel
theorem dX4_become_24 : decode cX4_become 24 = .ok (.iinc 5 1, 3) := by decide +kernel
theorem dX4_become_27 : decode cX4_become 27 = .ok (.goto (-18), 3) := by decide +kernel
theorem dX4_become_30 : decode cX4_become 30 = .ok (.aload_n 0, 1) := by decide +kernel
theorem dX4_become_31 : decode cX4_become 31 = .ok (.getfield 15, 3) := by decide +kernel
theorem dX4_become_34 : decode cX4_become 34 = .ok (.iload_n 1, 1) := by decide +kernel
theorem dX4_become_35 : decode cX4_become 35 = .ok (.aload 4, 2) := by decide +kernel
theorem dX4_become_37 : decode cX4_become 37 = .ok (.aastore, 1) := by decide +kernel
theorem dX4_become_38 : decode cX4_become 38 = .ok (.aload_n 0, 1) := by decide +kernel
theorem dX4_become_39 : decode cX4_become 39 = .ok (.getfield 18, 3) := by decide +kernel
theorem dX4_become_42 : decode cX4_become 42 = .ok (.iload_n 1, 1) := by decide +kernel
theorem dX4_become_43 : decode cX4_become 43 = .ok (.iload_n 3, 1) := by decide +kernel
theorem dX4_become_44 : decode cX4_become 44 = .ok (.iastore, 1) := by decide +kernel
theorem dX4_become_45 : decode cX4_become 45 = .ok (.return_, 1) := by decide +kernel
theorem dX4_add_0 : decode cX4_add 0 = .ok (.aload_n 0, 1) := by decide +kernel
theorem dX4_add_1 : decode cX4_add 1 = .ok (.iload_n 1, 1) := by decide +kernel
theorem dX4_add_2 : decode cX4_add 2 = .ok (.invokestatic 70, 3) := by decide +kernel
theorem dX4_add_5 : decode cX4_add 5 = .ok (.ifCond .ne 7, 3) := by decide +kernel
theorem dX4_add_8 : decode cX4_add 8 = .ok (.iconst 1, 1) := by decide +kernel
theorem dX4_add_9 : decode cX4_add 9 = .ok (.goto 4, 3) := by decide +kernel
theorem dX4_add_12 : decode cX4_add 12 = .ok (.iconst 0, 1) := by decide +kernel
theorem dX4_add_13 : decode cX4_add 13 = .ok (.iload_n 2, 1) := by decide +kernel
theorem dX4_add_14 : decode cX4_add 14 = .ok (.invokestatic 83, 3) := by decide +kernel
theorem dX4_add_17 : decode cX4_add 17 = .ok (.ifCond .ne 7, 3) := by decide +kernel
theorem dX4_add_20 : decode cX4_add 20 = .ok (.iconst 1, 1) := by decide +kernel
theorem dX4_add_21 : decode cX4_add 21 = .ok (.goto 4, 3) := by decide +kernel
theorem dX4_add_24 : decode cX4_add 24 = .ok (.iconst 0, 1) := by decide +kernel
theorem dX4_add_25 : decode cX4_add 25 = .ok (.invokevirtual 73, 3) := by decide +kernel
theorem dX4_add_28 : decode cX4_add 28 = .ok (.ifCond .eq 5, 3) := by decide +kernel
theorem dX4_add_31 : decode cX4_add 31 = .ok (.iconst 0, 1) := by decide +kernel
theorem dX4_add_32 : decode cX4_add 32 = .ok (.ireturn, 1) := by decide +kernel
theorem dX4_add_33 : decode cX4_add 33 = .ok (.aload_n 0, 1) := by decide +kernel
theorem dX4_add_34 : decode cX4_add 34 = .ok (.iload_n 1, 1) := by decide +kernel
theorem dX4_add_35 : decode cX4_add 35 = .ok (.aload_n 0, 1) := by decide +kernel
theorem dX4_add_36 : decode cX4_add 36 = .ok (.getfield 18, 3) := by decide +kernel
theorem dX4_add_39 : decode cX4_add 39 = .ok (.iload_n 1, 1) := by decide +kernel
theorem dX4_add_40 : decode cX4_add 40 = .ok (.iaload, 1) := by decide +kernel
theorem dX4_add_41 : decode cX4_add 41 = .ok (.iload_n 2, 1) := by decide +kernel
theorem dX4_add_42 : decode cX4_add 42 = .ok (.invokevirtual 86, 3) := by decide +kernel
theorem dX4_add_45 : decode cX4_add 45 = .ok (.ireturn, 1) := by decide +kernel
theorem dX4_put_0 : decode cX4_put 0 = .ok (.aload_n 0, 1) := by decide +kernel
theorem dX4_put_1 : decode cX4_put 1 = .ok (.aload_n 0, 1) := by decide +kernel
theorem dX4_put_2 : decode cX4_put 2 = .ok (.iload_n 1, 1) := by decide +kernel
theorem dX4_put_3 : decode cX4_put 3 = .ok (.iload_n 2, 1) := by decide +kernel
theorem dX4_put_4 : decode cX4_put 4 = .ok (.invokevirtual 89, 3) := by decide +kernel
theorem dX4_put_7 : decode cX4_put 7 = .ok (.ifCond .ne 7, 3) := by decide +kernel
theorem dX4_put_10 : decode cX4_put 10 = .ok (.iconst 1, 1) := by decide +kernel
theorem dX4_put_11 : decode cX4_put 11 = .ok (.goto 4, 3) := by decide +kernel
theorem dX4_put_14 : decode cX4_put 14 = .ok (.iconst 0, 1) := by decide +kernel
theorem dX4_put_15 : decode cX4_put 15 = .ok (.iload_n 3, 1) := by decide +kernel
theorem dX4_put_16 : decode cX4_put 16 = .ok (.invokestatic 83, 3) := by decide +kernel
theorem dX4_put_19 : decode cX4_put 19 = .ok (.ifCond .ne 7, 3) := by decide +kernel
theorem dX4_put_22 : decode cX4_put 22 = .ok (.iconst 1, 1) := by decide +kernel
theorem dX4_put_23 : decode cX4_put 23 = .ok (.goto 4, 3) := by decide +kernel
theorem dX4_put_26 : decode cX4_put 26 = .ok (.iconst 0, 1) := by decide +kernel
theorem dX4_put_27 : decode cX4_put 27 = .ok (.invokevirtual 73, 3) := by decide +kernel
theorem dX4_put_30 : decode cX4_put 30 = .ok (.ifCond .eq 5, 3) := by decide +kernel
theorem dX4_put_33 : decode cX4_put 33 = .ok (.iconst 0, 1) := by decide +kernel
theorem dX4_put_34 : decode cX4_put 34 = .ok (.ireturn, 1) := by decide +kernel
theorem dX4_put_35 : decode cX4_put 35 = .ok (.aload_n 0, 1) := by decide +kernel
theorem dX4_put_36 : decode cX4_put 36 = .ok (.getfield 15, 3) := by decide +kernel
theorem dX4_put_39 : decode cX4_put 39 = .ok (.iload_n 1, 1) := by decide +kernel
theorem dX4_put_40 : decode cX4_put 40 = .ok (.aaload, 1) := by decide +kernel
theorem dX4_put_41 : decode cX4_put 41 = .ok (.iload_n 2, 1) := by decide +kernel
theorem dX4_put_42 : decode cX4_put 42 = .ok (.iaload, 1) := by decide +kernel
theorem dX4_put_43 : decode cX4_put 43 = .ok (.istore 4, 2) := by decide +kernel
theorem dX4_put_45 : decode cX4_put 45 = .ok (.aload_n 0, 1) := by decide +kernel
theorem dX4_put_46 : decode cX4_put 46 = .ok (.getfield 15, 3) := by decide +kernel
theorem dX4_put_49 : decode cX4_put 49 = .ok (.iload_n 1, 1) := by decide +kernel
theorem dX4_put_50 : decode cX4_put 50 = .ok (.aaload, 1) := by decide +kernel
theorem dX4_put_51 : decode cX4_put 51 = .ok (.iload_n 2, 1) := by decide +kernel
theorem dX4_put_52 : decode cX4_put 52 = .ok (.iload_n 3, 1) := by decide +kernel
theorem dX4_put_53 : decode cX4_put 53 = .ok (.iastore, 1) := by decide +kernel
theorem dX4_put_54 : decode cX4_put 54 = .ok (.aload_n 0, 1) := by decide +kernel
theorem dX4_put_55 : decode cX4_put 55 = .ok (.iload 4, 2) := by decide +kernel
theorem dX4_put_57 : decode cX4_put 57 = .ok (.invokevirtual 92, 3) := by decide +kernel
theorem dX4_put_60 : decode cX4_put 60 = .ok (.ireturn, 1) := by decide +kernel
theorem dX4_insert_0 : decode cX4_insert 0 = .ok (.aload_n 0, 1) := by decide +kernel
theorem dX4_insert_1 : decode cX4_insert 1 = .ok (.iload_n 1, 1) := by decide +kernel
theorem dX4_insert_2 : decode cX4_insert 2 = .ok (.invokestatic 70, 3) := by decide +kernel
theorem dX4_insert_5 : decode cX4_insert 5 = .ok (.ifCond .eq 17, 3) := by decide +kernel
theorem dX4_insert_8 : decode cX4_insert 8 = .ok (.iload_n 2, 1) := by decide +kernel
theorem dX4_insert_9 : decode cX4_insert 9 = .ok (.ifCond .lt 13, 3) := by decide +kernel
theorem dX4_insert_12 : decode cX4_insert 12 = .ok (.iload_n 2, 1) := by decide +kernel
theorem dX4_insert_13 : decode cX4_insert 13 = .ok (.aload_n 0, 1) := by decide +kernel
theorem dX4_insert_14 : decode cX4_insert 14 = .ok (.getfield 18, 3) := by decide +kernel
theorem dX4_insert_17 : decode cX4_insert 17 = .ok (.iload_n 1, 1) := by decide +kernel
theorem dX4_insert_18 : decode cX4_insert 18 = .ok (.iaload, 1) := by decide +kernel
theorem dX4_insert_19 : decode cX4_insert 19 = .ok (.if_icmp .le 7, 3) := by decide +kernel
theorem dX4_insert_22 : decode cX4_insert 22 = .ok (.iconst 1, 1) := by decide +kernel
theorem dX4_insert_23 : decode cX4_insert 23 = .ok (.goto 4, 3) := by decide +kernel
theorem dX4_insert_26 : decode cX4_insert 26 = .ok (.iconst 0, 1) := by decide +kernel
theorem dX4_insert_27 : decode cX4_insert 27 = .ok (.iload_n 3, 1) := by decide +kernel
theorem dX4_insert_28 : decode cX4_insert 28 = .ok (.invokestatic 83, 3) := by decide +kernel
theorem dX4_insert_31 : decode cX4_insert 31 = .ok (.ifCond .ne 7, 3) := by decide +kernel
theorem dX4_insert_34 : decode cX4_insert 34 = .ok (.iconst 1, 1) := by decide +kernel
theorem dX4_insert_35 : decode cX4_insert 35 = .ok (.goto 4, 3) := by decide +kernel
theorem dX4_insert_38 : decode cX4_insert 38 = .ok (.iconst 0, 1) := by decide +kernel
theorem dX4_insert_39 : decode cX4_insert 39 = .ok (.invokevirtual 73, 3) := by decide +kernel
theorem dX4_insert_42 : decode cX4_insert 42 = .ok (.ifCond .eq 5, 3) := by decide +kernel
theorem dX4_insert_45 : decode cX4_insert 45 = .ok (.iconst 0, 1) := by decide +kernel
theorem dX4_insert_46 : decode cX4_insert 46 = .ok (.ireturn, 1) := by decide +kernel
theorem dX4_insert_47 : decode cX4_insert 47 = .ok (.aload_n 0, 1) := by decide +kernel
theorem dX4_insert_48 : decode cX4_insert 48 = .ok (.getfield 18, 3) := by decide +kernel
theorem dX4_insert_51 : decode cX4_insert 51 = .ok (.iload_n 1, 1) := by decide +kernel
theorem dX4_insert_52 : decode cX4_insert 52 = .ok (.iaload, 1) := by decide +kernel
theorem dX4_insert_53 : decode cX4_insert 53 = .ok (.bipush 30, 2) := by decide +kernel
theorem dX4_insert_55 : decode cX4_insert 55 = .ok (.if_icmp .ne 8, 3) := by decide +kernel
theorem dX4_insert_58 : decode cX4_insert 58 = .ok (.aload_n 0, 1) := by decide +kernel
theorem dX4_insert_59 : decode cX4_insert 59 = .ok (.invokevirtual 96, 3) := by decide +kernel
theorem dX4_insert_62 : decode cX4_insert 62 = .ok (.ireturn, 1) := by decide +kernel
theorem dX4_insert_63 : decode cX4_insert 63 = .ok (.aload_n 0, 1) := by decide +kernel
theorem dX4_insert_64 : decode cX4_insert 64 = .ok (.getfield 18, 3) := by decide +kernel
theorem dX4_insert_67 : decode cX4_insert 67 = .ok (.iload_n 1, 1) := by decide +kernel
theorem dX4_insert_68 : decode cX4_insert 68 = .ok (.iaload, 1) := by decide +kernel
theorem dX4_insert_69 : decode cX4_insert 69 = .ok (.istore 4, 2) := by decide +kernel
theorem dX4_insert_71 : decode cX4_insert 71 = .ok (.iload 4, 2) := by decide +kernel
theorem dX4_insert_73 : decode cX4_insert 73 = .ok (.iload_n 2, 1) := by decide +kernel
theorem dX4_insert_74 : decode cX4_insert 74 = .ok (.if_icmp .le 29, 3) := by decide +kernel
theorem dX4_insert_77 : decode cX4_insert 77 = .ok (.aload_n 0, 1) := by decide +kernel
theorem dX4_insert_78 : decode cX4_insert 78 = .ok (.getfield 15, 3) := by decide +kernel
theorem dX4_insert_81 : decode cX4_insert 81 = .ok (.iload_n 1, 1) := by decide +kernel
theorem dX4_insert_82 : decode cX4_insert 82 = .ok (.aaload, 1) := by decide +kernel
theorem dX4_insert_83 : decode cX4_insert 83 = .ok (.iload 4, 2) := by decide +kernel
theorem dX4_insert_85 : decode cX4_insert 85 = .ok (.aload_n 0, 1) := by decide +kernel
theorem dX4_insert_86 : decode cX4_insert 86 = .ok (.getfield 15, 3) := by decide +kernel
theorem dX4_insert_89 : decode cX4_insert 89 = .ok (.iload_n 1, 1) := by decide +kernel
theorem dX4_insert_90 : decode cX4_insert 90 = .ok (.aaload, 1) := by decide +kernel
theorem dX4_insert_91 : decode cX4_insert 91 = .ok (.iload 4, 2) := by decide +kernel
theorem dX4_insert_93 : decode cX4_insert 93 = .ok (.iconst 1, 1) := by decide +kernel
theorem dX4_insert_94 : decode cX4_insert 94 = .ok (.isub, 1) := by decide +kernel
theorem dX4_insert_95 : decode cX4_insert 95 = .ok (.iaload, 1) := by decide +kernel
theorem dX4_insert_96 : decode cX4_insert 96 = .ok (.iastore, 1) := by decide +kernel
theorem dX4_insert_97 : decode cX4_insert 97 = .ok (.iinc 4 (-1), 3) := by decide +kernel
theorem dX4_insert_100 : decode cX4_insert 100 = .ok (.goto (-29), 3) := by decide +kernel
theorem dX4_insert_103 : decode cX4_insert 103 = .ok (.aload_n 0, 1) := by decide +kernel
theorem dX4_insert_104 : decode cX4_insert 104 = .ok (.getfield 15, 3) := by decide +kernel
theorem dX4_insert_107 : decode cX4_insert 107 = .ok (.iload_n 1, 1) := by decide +kernel
theorem dX4_insert_108 : decode cX4_insert 108 = .ok (.aaload, 1) := by decide +kernel
theorem dX4_insert_109 : decode cX4_insert 109 = .ok (.iload_n 2, 1) := by decide +kernel
theorem dX4_insert_110 : decode cX4_insert 110 = .ok (.iload_n 3, 1) := by decide +kernel
theorem dX4_insert_111 : decode cX4_insert 111 = .ok (.iastore, 1) := by decide +kernel
theorem dX4_insert_112 : decode cX4_insert 112 = .ok (.aload_n 0, 1) := by decide +kernel
theorem dX4_insert_113 : decode cX4_insert 113 = .ok (.getfield 18, 3) := by decide +kernel
theorem dX4_insert_116 : decode cX4_insert 116 = .ok (.iload_n 1, 1) := by decide +kernel
theorem dX4_insert_117 : decode cX4_insert 117 = .ok (.dup2, 1) := by decide +kernel
theorem dX4_insert_118 : decode cX4_insert 118 = .ok (.iaload, 1) := by decide +kernel
theorem dX4_insert_119 : decode cX4_insert 119 = .ok (.iconst 1, 1) := by decide +kernel
theorem dX4_insert_120 : decode cX4_insert 120 = .ok (.iadd, 1) := by decide +kernel
theorem dX4_insert_121 : decode cX4_insert 121 = .ok (.iastore, 1) := by decide +kernel
theorem dX4_insert_122 : decode cX4_insert 122 = .ok (.aload_n 0, 1) := by decide +kernel
theorem dX4_insert_123 : decode cX4_insert 123 = .ok (.aload_n 0, 1) := by decide +kernel
theorem dX4_insert_124 : decode cX4_insert 124 = .ok (.getfield 18, 3) := by decide +kernel
theorem dX4_insert_127 : decode cX4_insert 127 = .ok (.iload_n 1, 1) := by decide +kernel
theorem dX4_insert_128 : decode cX4_insert 128 = .ok (.iaload, 1) := by decide +kernel
theorem dX4_insert_129 : decode cX4_insert 129 = .ok (.invokevirtual 92, 3) := by decide +kernel
theorem dX4_insert_132 : decode cX4_insert 132 = .ok (.ireturn, 1) := by decide +kernel
theorem dX4_drop_0 : decode cX4_drop 0 = .ok (.aload_n 0, 1) := by decide +kernel
theorem dX4_drop_1 : decode cX4_drop 1 = .ok (.aload_n 0, 1) := by decide +kernel
theorem dX4_drop_2 : decode cX4_drop 2 = .ok (.iload_n 1, 1) := by decide +kernel
theorem dX4_drop_3 : decode cX4_drop 3 = .ok (.iload_n 2, 1) := by decide +kernel
theorem dX4_drop_4 : decode cX4_drop 4 = .ok (.invokevirtual 89, 3) := by decide +kernel
theorem dX4_drop_7 : decode cX4_drop 7 = .ok (.ifCond .ne 7, 3) := by decide +kernel
theorem dX4_drop_10 : decode cX4_drop 10 = .ok (.iconst 1, 1) := by decide +kernel
theorem dX4_drop_11 : decode cX4_drop 11 = .ok (.goto 4, 3) := by decide +kernel
theorem dX4_drop_14 : decode cX4_drop 14 = .ok (.iconst 0, 1) := by decide +kernel
theorem dX4_drop_15 : decode cX4_drop 15 = .ok (.invokevirtual 100, 3) := by decide +kernel
theorem dX4_drop_18 : decode cX4_drop 18 = .ok (.ifCond .eq 5, 3) := by decide +kernel
theorem dX4_drop_21 : decode cX4_drop 21 = .ok (.iconst 0, 1) := by decide +kernel
theorem dX4_drop_22 : decode cX4_drop 22 = .ok (.ireturn, 1) := by decide +kernel
theorem dX4_drop_23 : decode cX4_drop 23 = .ok (.aload_n 0, 1) := by decide +kernel
theorem dX4_drop_24 : decode cX4_drop 24 = .ok (.getfield 15, 3) := by decide +kernel
theorem dX4_drop_27 : decode cX4_drop 27 = .ok (.iload_n 1, 1) := by decide +kernel
theorem dX4_drop_28 : decode cX4_drop 28 = .ok (.aaload, 1) := by decide +kernel
theorem dX4_drop_29 : decode cX4_drop 29 = .ok (.iload_n 2, 1) := by decide +kernel
theorem dX4_drop_30 : decode cX4_drop 30 = .ok (.iaload, 1) := by decide +kernel
theorem dX4_drop_31 : decode cX4_drop 31 = .ok (.istore_n 3, 1) := by decide +kernel
theorem dX4_drop_32 : decode cX4_drop 32 = .ok (.aload_n 0, 1) := by decide +kernel
theorem dX4_drop_33 : decode cX4_drop 33 = .ok (.getfield 18, 3) := by decide +kernel
theorem dX4_drop_36 : decode cX4_drop 36 = .ok (.iload_n 1, 1) := by decide +kernel
theorem dX4_drop_37 : decode cX4_drop 37 = .ok (.dup2, 1) := by decide +kernel
theorem dX4_drop_38 : decode cX4_drop 38 = .ok (.iaload, 1) := by decide +kernel
theorem dX4_drop_39 : decode cX4_drop 39 = .ok (.iconst 1, 1) := by decide +kernel
theorem dX4_drop_40 : decode cX4_drop 40 = .ok (.isub, 1) := by decide +kernel
theorem dX4_drop_41 : decode cX4_drop 41 = .ok (.iastore, 1) := by decide +kernel
theorem dX4_drop_42 : decode cX4_drop 42 = .ok (.iload_n 2, 1) := by decide +kernel
theorem dX4_drop_43 : decode cX4_drop 43 = .ok (.istore 4, 2) := by decide +kernel
theorem dX4_drop_45 : decode cX4_drop 45 = .ok (.iload 4, 2) := by decide +kernel
theorem dX4_drop_47 : decode cX4_drop 47 = .ok (.aload_n 0, 1) := by decide +kernel
theorem dX4_drop_48 : decode cX4_drop 48 = .ok (.getfield 18, 3) := by decide +kernel
theorem dX4_drop_51 : decode cX4_drop 51 = .ok (.iload_n 1, 1) := by decide +kernel
theorem dX4_drop_52 : decode cX4_drop 52 = .ok (.iaload, 1) := by decide +kernel
theorem dX4_drop_53 : decode cX4_drop 53 = .ok (.if_icmp .ge 29, 3) := by decide +kernel
theorem dX4_drop_56 : decode cX4_drop 56 = .ok (.aload_n 0, 1) := by decide +kernel
theorem dX4_drop_57 : decode cX4_drop 57 = .ok (.getfield 15, 3) := by decide +kernel
theorem dX4_drop_60 : decode cX4_drop 60 = .ok (.iload_n 1, 1) := by decide +kernel
theorem dX4_drop_61 : decode cX4_drop 61 = .ok (.aaload, 1) := by decide +kernel
theorem dX4_drop_62 : decode cX4_drop 62 = .ok (.iload 4, 2) := by decide +kernel
theorem dX4_drop_64 : decode cX4_drop 64 = .ok (.aload_n 0, 1) := by decide +kernel
theorem dX4_drop_65 : decode cX4_drop 65 = .ok (.getfield 15, 3) := by decide +kernel
theorem dX4_drop_68 : decode cX4_drop 68 = .ok (.iload_n 1, 1) := by decide +kernel
theorem dX4_drop_69 : decode cX4_drop 69 = .ok (.aaload, 1) := by decide +kernel
theorem dX4_drop_70 : decode cX4_drop 70 = .ok (.iload 4, 2) := by decide +kernel
theorem dX4_drop_72 : decode cX4_drop 72 = .ok (.iconst 1, 1) := by decide +kernel
theorem dX4_drop_73 : decode cX4_drop 73 = .ok (.iadd, 1) := by decide +kernel
theorem dX4_drop_74 : decode cX4_drop 74 = .ok (.iaload, 1) := by decide +kernel
theorem dX4_drop_75 : decode cX4_drop 75 = .ok (.iastore, 1) := by decide +kernel
theorem dX4_drop_76 : decode cX4_drop 76 = .ok (.iinc 4 1, 3) := by decide +kernel
theorem dX4_drop_79 : decode cX4_drop 79 = .ok (.goto (-34), 3) := by decide +kernel
theorem dX4_drop_82 : decode cX4_drop 82 = .ok (.aload_n 0, 1) := by decide +kernel
theorem dX4_drop_83 : decode cX4_drop 83 = .ok (.iload_n 3, 1) := by decide +kernel
theorem dX4_drop_84 : decode cX4_drop 84 = .ok (.invokevirtual 92, 3) := by decide +kernel
theorem dX4_drop_87 : decode cX4_drop 87 = .ok (.ireturn, 1) := by decide +kernel
theorem dX4_clear_0 : decode cX4_clear 0 = .ok (.aload_n 0, 1) := by decide +kernel
theorem dX4_clear_1 : decode cX4_clear 1 = .ok (.iload_n 1, 1) := by decide +kernel
theorem dX4_clear_2 : decode cX4_clear 2 = .ok (.invokestatic 70, 3) := by decide +kernel
theorem dX4_clear_5 : decode cX4_clear 5 = .ok (.ifCond .ne 7, 3) := by decide +kernel
theorem dX4_clear_8 : decode cX4_clear 8 = .ok (.iconst 1, 1) := by decide +kernel
theorem dX4_clear_9 : decode cX4_clear 9 = .ok (.goto 4, 3) := by decide +kernel
theorem dX4_clear_12 : decode cX4_clear 12 = .ok (.iconst 0, 1) := by decide +kernel
theorem dX4_clear_13 : decode cX4_clear 13 = .ok (.invokevirtual 100, 3) := by decide +kernel
theorem dX4_clear_16 : decode cX4_clear 16 = .ok (.ifCond .eq 5, 3) := by decide +kernel
theorem dX4_clear_19 : decode cX4_clear 19 = .ok (.iconst 0, 1) := by decide +kernel
theorem dX4_clear_20 : decode cX4_clear 20 = .ok (.ireturn, 1) := by decide +kernel
theorem dX4_clear_21 : decode cX4_clear 21 = .ok (.aload_n 0, 1) := by decide +kernel
theorem dX4_clear_22 : decode cX4_clear 22 = .ok (.getfield 18, 3) := by decide +kernel
theorem dX4_clear_25 : decode cX4_clear 25 = .ok (.iload_n 1, 1) := by decide +kernel
theorem dX4_clear_26 : decode cX4_clear 26 = .ok (.iaload, 1) := by decide +kernel
theorem dX4_clear_27 : decode cX4_clear 27 = .ok (.istore_n 2, 1) := by decide +kernel
theorem dX4_clear_28 : decode cX4_clear 28 = .ok (.aload_n 0, 1) := by decide +kernel
theorem dX4_clear_29 : decode cX4_clear 29 = .ok (.getfield 18, 3) := by decide +kernel
theorem dX4_clear_32 : decode cX4_clear 32 = .ok (.iload_n 1, 1) := by decide +kernel
theorem dX4_clear_33 : decode cX4_clear 33 = .ok (.iconst 0, 1) := by decide +kernel
theorem dX4_clear_34 : decode cX4_clear 34 = .ok (.iastore, 1) := by decide +kernel
theorem dX4_clear_35 : decode cX4_clear 35 = .ok (.aload_n 0, 1) := by decide +kernel
theorem dX4_clear_36 : decode cX4_clear 36 = .ok (.iload_n 2, 1) := by decide +kernel
theorem dX4_clear_37 : decode cX4_clear 37 = .ok (.invokevirtual 92, 3) := by decide +kernel
theorem dX4_clear_40 : decode cX4_clear 40 = .ok (.ireturn, 1) := by decide +kernel
theorem dX4_copy_0 : decode cX4_copy 0 = .ok (.aload_n 0, 1) := by decide +kernel
theorem dX4_copy_1 : decode cX4_copy 1 = .ok (.iload_n 1, 1) := by decide +kernel
theorem dX4_copy_2 : decode cX4_copy 2 = .ok (.invokestatic 70, 3) := by decide +kernel
theorem dX4_copy_5 : decode cX4_copy 5 = .ok (.ifCond .eq 10, 3) := by decide +kernel
theorem dX4_copy_8 : decode cX4_copy 8 = .ok (.iload_n 2, 1) := by decide +kernel
theorem dX4_copy_9 : decode cX4_copy 9 = .ok (.invokestatic 70, 3) := by decide +kernel
theorem dX4_copy_12 : decode cX4_copy 12 = .ok (.ifCond .ne 7, 3) := by decide +kernel
theorem dX4_copy_15 : decode cX4_copy 15 = .ok (.iconst 1, 1) := by decide +kernel
theorem dX4_copy_16 : decode cX4_copy 16 = .ok (.goto 4, 3) := by decide +kernel
theorem dX4_copy_19 : decode cX4_copy 19 = .ok (.iconst 0, 1) := by decide +kernel
theorem dX4_copy_20 : decode cX4_copy 20 = .ok (.invokevirtual 100, 3) := by decide +kernel
theorem dX4_copy_23 : decode cX4_copy 23 = .ok (.ifCond .eq 5, 3) := by decide +kernel
theorem dX4_copy_26 : decode cX4_copy 26 = .ok (.iconst 0, 1) := by decide +kernel
theorem dX4_copy_27 : decode cX4_copy 27 = .ok (.ireturn, 1) := by decide +kernel
theorem dX4_copy_28 : decode cX4_copy 28 = .ok (.aload_n 0, 1) := by decide +kernel
theorem dX4_copy_29 : decode cX4_copy 29 = .ok (.iload_n 2, 1) := by decide +kernel
theorem dX4_copy_30 : decode cX4_copy 30 = .ok (.aload_n 0, 1) := by decide +kernel
theorem dX4_copy_31 : decode cX4_copy 31 = .ok (.getfield 15, 3) := by decide +kernel
theorem dX4_copy_34 : decode cX4_copy 34 = .ok (.iload_n 1, 1) := by decide +kernel
theorem dX4_copy_35 : decode cX4_copy 35 = .ok (.aaload, 1) := by decide +kernel
theorem dX4_copy_36 : decode cX4_copy 36 = .ok (.aload_n 0, 1) := by decide +kernel
theorem dX4_copy_37 : decode cX4_copy 37 = .ok (.getfield 18, 3) := by decide +kernel
theorem dX4_copy_40 : decode cX4_copy 40 = .ok (.iload_n 1, 1) := by decide +kernel
theorem dX4_copy_41 : decode cX4_copy 41 = .ok (.iaload, 1) := by decide +kernel
theorem dX4_copy_42 : decode cX4_copy 42 = .ok (.invokevirtual 103, 3) := by decide +kernel
theorem dX4_copy_45 : decode cX4_copy 45 = .ok (.aload_n 0, 1) := by decide +kernel
theorem dX4_copy_46 : decode cX4_copy 46 = .ok (.aload_n 0, 1) := by decide +kernel
theorem dX4_copy_47 : decode cX4_copy 47 = .ok (.getfield 18, 3) := by decide +kernel
theorem dX4_copy_50 : decode cX4_copy 50 = .ok (.iload_n 2, 1) := by decide +kernel
theorem dX4_copy_51 : decode cX4_copy 51 = .ok (.iaload, 1) := by decide +kernel
theorem dX4_copy_52 : decode cX4_copy 52 = .ok (.invokevirtual 92, 3) := by decide +kernel
theorem dX4_copy_55 : decode cX4_copy 55 = .ok (.ireturn, 1) := by decide +kernel
theorem dX4_join_0 : decode cX4_join 0 = .ok (.aload_n 0, 1) := by decide +kernel
theorem dX4_join_1 : decode cX4_join 1 = .ok (.iload_n 1, 1) := by decide +kernel
theorem dX4_join_2 : decode cX4_join 2 = .ok (.invokestatic 70, 3) := by decide +kernel
theorem dX4_join_5 : decode cX4_join 5 = .ok (.ifCond .eq 10, 3) := by decide +kernel
theorem dX4_join_8 : decode cX4_join 8 = .ok (.iload_n 2, 1) := by decide +kernel
theorem dX4_join_9 : decode cX4_join 9 = .ok (.invokestatic 70, 3) := by decide +kernel
theorem dX4_join_12 : decode cX4_join 12 = .ok (.ifCond .ne 7, 3) := by decide +kernel
theorem dX4_join_15 : decode cX4_join 15 = .ok (.iconst 1, 1) := by decide +kernel
theorem dX4_join_16 : decode cX4_join 16 = .ok (.goto 4, 3) := by decide +kernel
theorem dX4_join_19 : decode cX4_join 19 = .ok (.iconst 0, 1) := by decide +kernel
theorem dX4_join_20 : decode cX4_join 20 = .ok (.invokevirtual 100, 3) := by decide +kernel
theorem dX4_join_23 : decode cX4_join 23 = .ok (.ifCond .eq 5, 3) := by decide +kernel
theorem dX4_join_26 : decode cX4_join 26 = .ok (.iconst 0, 1) := by decide +kernel
theorem dX4_join_27 : decode cX4_join 27 = .ok (.ireturn, 1) := by decide +kernel
theorem dX4_join_28 : decode cX4_join 28 = .ok (.aload_n 0, 1) := by decide +kernel
theorem dX4_join_29 : decode cX4_join 29 = .ok (.getfield 18, 3) := by decide +kernel
theorem dX4_join_32 : decode cX4_join 32 = .ok (.iload_n 2, 1) := by decide +kernel
theorem dX4_join_33 : decode cX4_join 33 = .ok (.iaload, 1) := by decide +kernel
theorem dX4_join_34 : decode cX4_join 34 = .ok (.istore_n 3, 1) := by decide +kernel
theorem dX4_join_35 : decode cX4_join 35 = .ok (.aload_n 0, 1) := by decide +kernel
theorem dX4_join_36 : decode cX4_join 36 = .ok (.getfield 18, 3) := by decide +kernel
theorem dX4_join_39 : decode cX4_join 39 = .ok (.iload_n 1, 1) := by decide +kernel
theorem dX4_join_40 : decode cX4_join 40 = .ok (.iaload, 1) := by decide +kernel
theorem dX4_join_41 : decode cX4_join 41 = .ok (.iload_n 3, 1) := by decide +kernel
theorem dX4_join_42 : decode cX4_join 42 = .ok (.iadd, 1) := by decide +kernel
theorem dX4_join_43 : decode cX4_join 43 = .ok (.bipush 30, 2) := by decide +kernel
theorem dX4_join_45 : decode cX4_join 45 = .ok (.if_icmp .le 8, 3) := by decide +kernel
theorem dX4_join_48 : decode cX4_join 48 = .ok (.aload_n 0, 1) := by decide +kernel
theorem dX4_join_49 : decode cX4_join 49 = .ok (.invokevirtual 96, 3) := by decide +kernel
theorem dX4_join_52 : decode cX4_join 52 = .ok (.ireturn, 1) := by decide +kernel
theorem dX4_join_53 : decode cX4_join 53 = .ok (.iconst 0, 1) := by decide +kernel
theorem dX4_join_54 : decode cX4_join 54 = .ok (.istore 4, 2) := by decide +kernel
theorem dX4_join_56 : decode cX4_join 56 = .ok (.iload 4, 2) := by decide +kernel
theorem dX4_join_58 : decode cX4_join 58 = .ok (.iload_n 3, 1) := by decide +kernel
theorem dX4_join_59 : decode cX4_join 59 = .ok (.if_icmp .ge 34, 3) := by decide +kernel
theorem dX4_join_62 : decode cX4_join 62 = .ok (.aload_n 0, 1) := by decide +kernel
theorem dX4_join_63 : decode cX4_join 63 = .ok (.getfield 15, 3) := by decide +kernel
theorem dX4_join_66 : decode cX4_join 66 = .ok (.iload_n 1, 1) := by decide +kernel
theorem dX4_join_67 : decode cX4_join 67 = .ok (.aaload, 1) := by decide +kernel
theorem dX4_join_68 : decode cX4_join 68 = .ok (.aload_n 0, 1) := by decide +kernel
theorem dX4_join_69 : decode cX4_join 69 = .ok (.getfield 18, 3) := by decide +kernel
theorem dX4_join_72 : decode cX4_join 72 = .ok (.iload_n 1, 1) := by decide +kernel
theorem dX4_join_73 : decode cX4_join 73 = .ok (.iaload, 1) := by decide +kernel
theorem dX4_join_74 : decode cX4_join 74 = .ok (.iload 4, 2) := by decide +kernel
theorem dX4_join_76 : decode cX4_join 76 = .ok (.iadd, 1) := by decide +kernel
theorem dX4_join_77 : decode cX4_join 77 = .ok (.aload_n 0, 1) := by decide +kernel
theorem dX4_join_78 : decode cX4_join 78 = .ok (.getfield 15, 3) := by decide +kernel
theorem dX4_join_81 : decode cX4_join 81 = .ok (.iload_n 2, 1) := by decide +kernel
theorem dX4_join_82 : decode cX4_join 82 = .ok (.aaload, 1) := by decide +kernel
theorem dX4_join_83 : decode cX4_join 83 = .ok (.iload 4, 2) := by decide +kernel
theorem dX4_join_85 : decode cX4_join 85 = .ok (.iaload, 1) := by decide +kernel
theorem dX4_join_86 : decode cX4_join 86 = .ok (.iastore, 1) := by decide +kernel
theorem dX4_join_87 : decode cX4_join 87 = .ok (.iinc 4 1, 3) := by decide +kernel
theorem dX4_join_90 : decode cX4_join 90 = .ok (.goto (-34), 3) := by decide +kernel
theorem dX4_join_93 : decode cX4_join 93 = .ok (.aload_n 0, 1) := by decide +kernel
theorem dX4_join_94 : decode cX4_join 94 = .ok (.getfield 18, 3) := by decide +kernel
theorem dX4_join_97 : decode cX4_join 97 = .ok (.iload_n 1, 1) := by decide +kernel
theorem dX4_join_98 : decode cX4_join 98 = .ok (.dup2, 1) := by decide +kernel
theorem dX4_join_99 : decode cX4_join 99 = .ok (.iaload, 1) := by decide +kernel
theorem dX4_join_100 : decode cX4_join 100 = .ok (.iload_n 3, 1) := by decide +kernel
theorem dX4_join_101 : decode cX4_join 101 = .ok (.iadd, 1) := by decide +kernel
theorem dX4_join_102 : decode cX4_join 102 = .ok (.iastore, 1) := by decide +kernel
theorem dX4_join_103 : decode cX4_join 103 = .ok (.aload_n 0, 1) := by decide +kernel
theorem dX4_join_104 : decode cX4_join 104 = .ok (.aload_n 0, 1) := by decide +kernel
theorem dX4_join_105 : decode cX4_join 105 = .ok (.getfield 18, 3) := by decide +kernel
theorem dX4_join_108 : decode cX4_join 108 = .ok (.iload_n 1, 1) := by decide +kernel
theorem dX4_join_109 : decode cX4_join 109 = .ok (.iaload, 1) := by decide +kernel
theorem dX4_join_110 : decode cX4_join 110 = .ok (.invokevirtual 92, 3) := by decide +kernel
theorem dX4_join_113 : decode cX4_join 113 = .ok (.ireturn, 1) := by decide +kernel
theorem dX4_turn_0 : decode cX4_turn 0 = .ok (.aload_n 0, 1) := by decide +kernel
theorem dX4_turn_1 : decode cX4_turn 1 = .ok (.iload_n 1, 1) := by decide +kernel
theorem dX4_turn_2 : decode cX4_turn 2 = .ok (.invokestatic 70, 3) := by decide +kernel
theorem dX4_turn_5 : decode cX4_turn 5 = .ok (.ifCond .ne 7, 3) := by decide +kernel
theorem dX4_turn_8 : decode cX4_turn 8 = .ok (.iconst 1, 1) := by decide +kernel
theorem dX4_turn_9 : decode cX4_turn 9 = .ok (.goto 4, 3) := by decide +kernel
theorem dX4_turn_12 : decode cX4_turn 12 = .ok (.iconst 0, 1) := by decide +kernel
theorem dX4_turn_13 : decode cX4_turn 13 = .ok (.invokevirtual 100, 3) := by decide +kernel
theorem dX4_turn_16 : decode cX4_turn 16 = .ok (.ifCond .eq 5, 3) := by decide +kernel
theorem dX4_turn_19 : decode cX4_turn 19 = .ok (.iconst 0, 1) := by decide +kernel
theorem dX4_turn_20 : decode cX4_turn 20 = .ok (.ireturn, 1) := by decide +kernel
theorem dX4_turn_21 : decode cX4_turn 21 = .ok (.bipush 30, 2) := by decide +kernel
theorem dX4_turn_23 : decode cX4_turn 23 = .ok (.newarray .int, 2) := by decide +kernel
theorem dX4_turn_25 : decode cX4_turn 25 = .ok (.astore_n 2, 1) := by decide +kernel
theorem dX4_turn_26 : decode cX4_turn 26 = .ok (.iconst 0, 1) := by decide +kernel
theorem dX4_turn_27 : decode cX4_turn 27 = .ok (.istore_n 3, 1) := by decide +kernel
theorem dX4_turn_28 : decode cX4_turn 28 = .ok (.iconst 0, 1) := by decide +kernel
theorem dX4_turn_29 : decode cX4_turn 29 = .ok (.istore 4, 2) := by decide +kernel
theorem dX4_turn_31 : decode cX4_turn 31 = .ok (.iload 4, 2) := by decide +kernel
theorem dX4_turn_33 : decode cX4_turn 33 = .ok (.aload_n 0, 1) := by decide +kernel
theorem dX4_turn_34 : decode cX4_turn 34 = .ok (.getfield 18, 3) := by decide +kernel
theorem dX4_turn_37 : decode cX4_turn 37 = .ok (.iload_n 1, 1) := by decide +kernel
theorem dX4_turn_38 : decode cX4_turn 38 = .ok (.iaload, 1) := by decide +kernel
theorem dX4_turn_39 : decode cX4_turn 39 = .ok (.if_icmp .ge 49, 3) := by decide +kernel
theorem dX4_turn_42 : decode cX4_turn 42 = .ok (.aload_n 2, 1) := by decide +kernel
theorem dX4_turn_43 : decode cX4_turn 43 = .ok (.iload 4, 2) := by decide +kernel
theorem dX4_turn_45 : decode cX4_turn 45 = .ok (.aload_n 0, 1) := by decide +kernel
theorem dX4_turn_46 : decode cX4_turn 46 = .ok (.getfield 15, 3) := by decide +kernel
theorem dX4_turn_49 : decode cX4_turn 49 = .ok (.iload_n 1, 1) := by decide +kernel
theorem dX4_turn_50 : decode cX4_turn 50 = .ok (.aaload, 1) := by decide +kernel
theorem dX4_turn_51 : decode cX4_turn 51 = .ok (.aload_n 0, 1) := by decide +kernel
theorem dX4_turn_52 : decode cX4_turn 52 = .ok (.getfield 18, 3) := by decide +kernel
theorem dX4_turn_55 : decode cX4_turn 55 = .ok (.iload_n 1, 1) := by decide +kernel
theorem dX4_turn_56 : decode cX4_turn 56 = .ok (.iaload, 1) := by decide +kernel
theorem dX4_turn_57 : decode cX4_turn 57 = .ok (.iconst 1, 1) := by decide +kernel
theorem dX4_turn_58 : decode cX4_turn 58 = .ok (.isub, 1) := by decide +kernel
theorem dX4_turn_59 : decode cX4_turn 59 = .ok (.iload 4, 2) := by decide +kernel
theorem dX4_turn_61 : decode cX4_turn 61 = .ok (.isub, 1) := by decide +kernel
theorem dX4_turn_62 : decode cX4_turn 62 = .ok (.iaload, 1) := by decide +kernel
theorem dX4_turn_63 : decode cX4_turn 63 = .ok (.iastore, 1) := by decide +kernel
theorem dX4_turn_64 : decode cX4_turn 64 = .ok (.aload_n 2, 1) := by decide +kernel
theorem dX4_turn_65 : decode cX4_turn 65 = .ok (.iload 4, 2) := by decide +kernel
theorem dX4_turn_67 : decode cX4_turn 67 = .ok (.iaload, 1) := by decide +kernel
theorem dX4_turn_68 : decode cX4_turn 68 = .ok (.aload_n 0, 1) := by decide +kernel
theorem dX4_turn_69 : decode cX4_turn 69 = .ok (.getfield 15, 3) := by decide +kernel
theorem dX4_turn_72 : decode cX4_turn 72 = .ok (.iload_n 1, 1) := by decide +kernel
theorem dX4_turn_73 : decode cX4_turn 73 = .ok (.aaload, 1) := by decide +kernel
theorem dX4_turn_74 : decode cX4_turn 74 = .ok (.iload 4, 2) := by decide +kernel
theorem dX4_turn_76 : decode cX4_turn 76 = .ok (.iaload, 1) := by decide +kernel
theorem dX4_turn_77 : decode cX4_turn 77 = .ok (.if_icmp .eq 5, 3) := by decide +kernel
theorem dX4_turn_80 : decode cX4_turn 80 = .ok (.iconst 1, 1) := by decide +kernel
theorem dX4_turn_81 : decode cX4_turn 81 = .ok (.istore_n 3, 1) := by decide +kernel
theorem dX4_turn_82 : decode cX4_turn 82 = .ok (.iinc 4 1, 3) := by decide +kernel
theorem dX4_turn_85 : decode cX4_turn 85 = .ok (.goto (-54), 3) := by decide +kernel
theorem dX4_turn_88 : decode cX4_turn 88 = .ok (.aload_n 0, 1) := by decide +kernel
theorem dX4_turn_89 : decode cX4_turn 89 = .ok (.getfield 15, 3) := by decide +kernel
theorem dX4_turn_92 : decode cX4_turn 92 = .ok (.iload_n 1, 1) := by decide +kernel
theorem dX4_turn_93 : decode cX4_turn 93 = .ok (.aload_n 2, 1) := by decide +kernel
theorem dX4_turn_94 : decode cX4_turn 94 = .ok (.aastore, 1) := by decide +kernel
theorem dX4_turn_95 : decode cX4_turn 95 = .ok (.aload_n 0, 1) := by decide +kernel
theorem dX4_turn_96 : decode cX4_turn 96 = .ok (.iload_n 3, 1) := by decide +kernel
theorem dX4_turn_97 : decode cX4_turn 97 = .ok (.invokevirtual 92, 3) := by decide +kernel
theorem dX4_turn_100 : decode cX4_turn 100 = .ok (.ireturn, 1) := by decide +kernel
theorem dX4_fill_0 : decode cX4_fill 0 = .ok (.aload_n 0, 1) := by decide +kernel
theorem dX4_fill_1 : decode cX4_fill 1 = .ok (.iload_n 1, 1) := by decide +kernel
theorem dX4_fill_2 : decode cX4_fill 2 = .ok (.invokestatic 70, 3) := by decide +kernel
theorem dX4_fill_5 : decode cX4_fill 5 = .ok (.ifCond .ne 7, 3) := by decide +kernel
theorem dX4_fill_8 : decode cX4_fill 8 = .ok (.iconst 1, 1) := by decide +kernel
theorem dX4_fill_9 : decode cX4_fill 9 = .ok (.goto 4, 3) := by decide +kernel
theorem dX4_fill_12 : decode cX4_fill 12 = .ok (.iconst 0, 1) := by decide +kernel
theorem dX4_fill_13 : decode cX4_fill 13 = .ok (.iload_n 2, 1) := by decide +kernel
theorem dX4_fill_14 : decode cX4_fill 14 = .ok (.invokestatic 83, 3) := by decide +kernel
theorem dX4_fill_17 : decode cX4_fill 17 = .ok (.ifCond .eq 22, 3) := by decide +kernel
theorem dX4_fill_20 : decode cX4_fill 20 = .ok (.iload_n 3, 1) := by decide +kernel
theorem dX4_fill_21 : decode cX4_fill 21 = .ok (.ifCond .lt 18, 3) := by decide +kernel
theorem dX4_fill_24 : decode cX4_fill 24 = .ok (.iload_n 3, 1) := by decide +kernel
theorem dX4_fill_25 : decode cX4_fill 25 = .ok (.bipush 30, 2) := by decide +kernel
theorem dX4_fill_27 : decode cX4_fill 27 = .ok (.if_icmp .gt 12, 3) := by decide +kernel
theorem dX4_fill_30 : decode cX4_fill 30 = .ok (.iload_n 2, 1) := by decide +kernel
theorem dX4_fill_31 : decode cX4_fill 31 = .ok (.iload_n 3, 1) := by decide +kernel
theorem dX4_fill_32 : decode cX4_fill 32 = .ok (.iadd, 1) := by decide +kernel
theorem dX4_fill_33 : decode cX4_fill 33 = .ok (.sipush 256, 3) := by decide +kernel
theorem dX4_fill_36 : decode cX4_fill 36 = .ok (.if_icmp .le 7, 3) := by decide +kernel
theorem dX4_fill_39 : decode cX4_fill 39 = .ok (.iconst 1, 1) := by decide +kernel
theorem dX4_fill_40 : decode cX4_fill 40 = .ok (.goto 4, 3) := by decide +kernel
theorem dX4_fill_43 : decode cX4_fill 43 = .ok (.iconst 0, 1) := by decide +kernel
theorem dX4_fill_44 : decode cX4_fill 44 = .ok (.invokevirtual 73, 3) := by decide +kernel
theorem dX4_fill_47 : decode cX4_fill 47 = .ok (.ifCond .eq 5, 3) := by decide +kernel
theorem dX4_fill_50 : decode cX4_fill 50 = .ok (.iconst 0, 1) := by decide +kernel
theorem dX4_fill_51 : decode cX4_fill 51 = .ok (.ireturn, 1) := by decide +kernel
theorem dX4_fill_52 : decode cX4_fill 52 = .ok (.aload_n 0, 1) := by decide +kernel
theorem dX4_fill_53 : decode cX4_fill 53 = .ok (.getfield 18, 3) := by decide +kernel
theorem dX4_fill_56 : decode cX4_fill 56 = .ok (.iload_n 1, 1) := by decide +kernel
theorem dX4_fill_57 : decode cX4_fill 57 = .ok (.iaload, 1) := by decide +kernel
theorem dX4_fill_58 : decode cX4_fill 58 = .ok (.istore 4, 2) := by decide +kernel
theorem dX4_fill_60 : decode cX4_fill 60 = .ok (.iconst 0, 1) := by decide +kernel
theorem dX4_fill_61 : decode cX4_fill 61 = .ok (.istore 5, 2) := by decide +kernel
theorem dX4_fill_63 : decode cX4_fill 63 = .ok (.iload 5, 2) := by decide +kernel
theorem dX4_fill_65 : decode cX4_fill 65 = .ok (.iload_n 3, 1) := by decide +kernel
theorem dX4_fill_66 : decode cX4_fill 66 = .ok (.if_icmp .ge 22, 3) := by decide +kernel
theorem dX4_fill_69 : decode cX4_fill 69 = .ok (.aload_n 0, 1) := by decide +kernel
theorem dX4_fill_70 : decode cX4_fill 70 = .ok (.getfield 15, 3) := by decide +kernel
theorem dX4_fill_73 : decode cX4_fill 73 = .ok (.iload_n 1, 1) := by decide +kernel
theorem dX4_fill_74 : decode cX4_fill 74 = .ok (.aaload, 1) := by decide +kernel
theorem dX4_fill_75 : decode cX4_fill 75 = .ok (.iload 5, 2) := by decide +kernel
theorem dX4_fill_77 : decode cX4_fill 77 = .ok (.iload_n 2, 1) := by decide +kernel
theorem dX4_fill_78 : decode cX4_fill 78 = .ok (.iload 5, 2) := by decide +kernel
theorem dX4_fill_80 : decode cX4_fill 80 = .ok (.iadd, 1) := by decide +kernel
theorem dX4_fill_81 : decode cX4_fill 81 = .ok (.iastore, 1) := by decide +kernel
theorem dX4_fill_82 : decode cX4_fill 82 = .ok (.iinc 5 1, 3) := by decide +kernel
theorem dX4_fill_85 : decode cX4_fill 85 = .ok (.goto (-22), 3) := by decide +kernel
theorem dX4_fill_88 : decode cX4_fill 88 = .ok (.aload_n 0, 1) := by decide +kernel
theorem dX4_fill_89 : decode cX4_fill 89 = .ok (.getfield 18, 3) := by decide +kernel
theorem dX4_fill_92 : decode cX4_fill 92 = .ok (.iload_n 1, 1) := by decide +kernel
theorem dX4_fill_93 : decode cX4_fill 93 = .ok (.iload_n 3, 1) := by decide +kernel
theorem dX4_fill_94 : decode cX4_fill 94 = .ok (.iastore, 1) := by decide +kernel
theorem dX4_fill_95 : decode cX4_fill 95 = .ok (.aload_n 0, 1) := by decide +kernel
theorem dX4_fill_96 : decode cX4_fill 96 = .ok (.iload 4, 2) := by decide +kernel
theorem dX4_fill_98 : decode cX4_fill 98 = .ok (.invokevirtual 92, 3) := by decide +kernel
theorem dX4_fill_101 : decode cX4_fill 101 = .ok (.ireturn, 1) := by decide +kernel
theorem dX4_cut_0 : decode cX4_cut 0 = .ok (.aload_n 0, 1) := by decide +kernel
theorem dX4_cut_1 : decode cX4_cut 1 = .ok (.iload_n 1, 1) := by decide +kernel
theorem dX4_cut_2 : decode cX4_cut 2 = .ok (.invokestatic 70, 3) := by decide +kernel
theorem dX4_cut_5 : decode cX4_cut 5 = .ok (.ifCond .eq 22, 3) := by decide +kernel
theorem dX4_cut_8 : decode cX4_cut 8 = .ok (.iload_n 2, 1) := by decide +kernel
theorem dX4_cut_9 : decode cX4_cut 9 = .ok (.ifCond .lt 18, 3) := by decide +kernel
theorem dX4_cut_12 : decode cX4_cut 12 = .ok (.iload_n 2, 1) := by decide +kernel
theorem dX4_cut_13 : decode cX4_cut 13 = .ok (.iload_n 3, 1) := by decide +kernel
theorem dX4_cut_14 : decode cX4_cut 14 = .ok (.if_icmp .gt 13, 3) := by decide +kernel
theorem dX4_cut_17 : decode cX4_cut 17 = .ok (.iload_n 3, 1) := by decide +kernel
theorem dX4_cut_18 : decode cX4_cut 18 = .ok (.aload_n 0, 1) := by decide +kernel
theorem dX4_cut_19 : decode cX4_cut 19 = .ok (.getfield 18, 3) := by decide +kernel
theorem dX4_cut_22 : decode cX4_cut 22 = .ok (.iload_n 1, 1) := by decide +kernel
theorem dX4_cut_23 : decode cX4_cut 23 = .ok (.iaload, 1) := by decide +kernel
theorem dX4_cut_24 : decode cX4_cut 24 = .ok (.if_icmp .le 7, 3) := by decide +kernel
theorem dX4_cut_27 : decode cX4_cut 27 = .ok (.iconst 1, 1) := by decide +kernel
theorem dX4_cut_28 : decode cX4_cut 28 = .ok (.goto 4, 3) := by decide +kernel
theorem dX4_cut_31 : decode cX4_cut 31 = .ok (.iconst 0, 1) := by decide +kernel
theorem dX4_cut_32 : decode cX4_cut 32 = .ok (.invokevirtual 100, 3) := by decide +kernel
theorem dX4_cut_35 : decode cX4_cut 35 = .ok (.ifCond .eq 5, 3) := by decide +kernel
theorem dX4_cut_38 : decode cX4_cut 38 = .ok (.iconst 0, 1) := by decide +kernel
theorem dX4_cut_39 : decode cX4_cut 39 = .ok (.ireturn, 1) := by decide +kernel
theorem dX4_cut_40 : decode cX4_cut 40 = .ok (.iload_n 2, 1) := by decide +kernel
theorem dX4_cut_41 : decode cX4_cut 41 = .ok (.istore 4, 2) := by decide +kernel
theorem dX4_cut_43 : decode cX4_cut 43 = .ok (.iload 4, 2) := by decide +kernel
theorem dX4_cut_45 : decode cX4_cut 45 = .ok (.iload_n 3, 1) := by decide +kernel
theorem dX4_cut_46 : decode cX4_cut 46 = .ok (.if_icmp .ge 29, 3) := by decide +kernel
theorem dX4_cut_49 : decode cX4_cut 49 = .ok (.aload_n 0, 1) := by decide +kernel
theorem dX4_cut_50 : decode cX4_cut 50 = .ok (.getfield 15, 3) := by decide +kernel
theorem dX4_cut_53 : decode cX4_cut 53 = .ok (.iload_n 1, 1) := by decide +kernel
theorem dX4_cut_54 : decode cX4_cut 54 = .ok (.aaload, 1) := by decide +kernel
theorem dX4_cut_55 : decode cX4_cut 55 = .ok (.iload 4, 2) := by decide +kernel
theorem dX4_cut_57 : decode cX4_cut 57 = .ok (.iload_n 2, 1) := by decide +kernel
theorem dX4_cut_58 : decode cX4_cut 58 = .ok (.isub, 1) := by decide +kernel
theorem dX4_cut_59 : decode cX4_cut 59 = .ok (.aload_n 0, 1) := by decide +kernel
theorem dX4_cut_60 : decode cX4_cut 60 = .ok (.getfield 15, 3) := by decide +kernel
theorem dX4_cut_63 : decode cX4_cut 63 = .ok (.iload_n 1, 1) := by decide +kernel
theorem dX4_cut_64 : decode cX4_cut 64 = .ok (.aaload, 1) := by decide +kernel
theorem dX4_cut_65 : decode cX4_cut 65 = .ok (.iload 4, 2) := by decide +kernel
theorem dX4_cut_67 : decode cX4_cut 67 = .ok (.iaload, 1) := by decide +kernel
theorem dX4_cut_68 : decode cX4_cut 68 = .ok (.iastore, 1) := by decide +kernel
theorem dX4_cut_69 : decode cX4_cut 69 = .ok (.iinc 4 1, 3) := by decide +kernel
theorem dX4_cut_72 : decode cX4_cut 72 = .ok (.goto (-29), 3) := by decide +kernel
theorem dX4_cut_75 : decode cX4_cut 75 = .ok (.aload_n 0, 1) := by decide +kernel
theorem dX4_cut_76 : decode cX4_cut 76 = .ok (.getfield 18, 3) := by decide +kernel
theorem dX4_cut_79 : decode cX4_cut 79 = .ok (.iload_n 1, 1) := by decide +kernel
theorem dX4_cut_80 : decode cX4_cut 80 = .ok (.iload_n 3, 1) := by decide +kernel
theorem dX4_cut_81 : decode cX4_cut 81 = .ok (.iload_n 2, 1) := by decide +kernel
theorem dX4_cut_82 : decode cX4_cut 82 = .ok (.isub, 1) := by decide +kernel
theorem dX4_cut_83 : decode cX4_cut 83 = .ok (.iastore, 1) := by decide +kernel
theorem dX4_cut_84 : decode cX4_cut 84 = .ok (.aload_n 0, 1) := by decide +kernel
theorem dX4_cut_85 : decode cX4_cut 85 = .ok (.aload_n 0, 1) := by decide +kernel
theorem dX4_cut_86 : decode cX4_cut 86 = .ok (.getfield 18, 3) := by decide +kernel
theorem dX4_cut_89 : decode cX4_cut 89 = .ok (.iload_n 1, 1) := by decide +kernel
theorem dX4_cut_90 : decode cX4_cut 90 = .ok (.iaload, 1) := by decide +kernel
theorem dX4_cut_91 : decode cX4_cut 91 = .ok (.invokevirtual 92, 3) := by decide +kernel
theorem dX4_cut_94 : decode cX4_cut 94 = .ok (.ireturn, 1) := by decide +kernel
theorem dX4_sifted_0 : decode cX4_sifted 0 = .ok (.iconst 0, 1) := by decide +kernel
theorem dX4_sifted_1 : decode cX4_sifted 1 = .ok (.istore_n 3, 1) := by decide +kernel
theorem dX4_sifted_2 : decode cX4_sifted 2 = .ok (.iconst 0, 1) := by decide +kernel
theorem dX4_sifted_3 : decode cX4_sifted 3 = .ok (.istore 4, 2) := by decide +kernel
theorem dX4_sifted_5 : decode cX4_sifted 5 = .ok (.iload 4, 2) := by decide +kernel
theorem dX4_sifted_7 : decode cX4_sifted 7 = .ok (.aload_n 0, 1) := by decide +kernel
theorem dX4_sifted_8 : decode cX4_sifted 8 = .ok (.getfield 18, 3) := by decide +kernel
theorem dX4_sifted_11 : decode cX4_sifted 11 = .ok (.iload_n 1, 1) := by decide +kernel
theorem dX4_sifted_12 : decode cX4_sifted 12 = .ok (.iaload, 1) := by decide +kernel
theorem dX4_sifted_13 : decode cX4_sifted 13 = .ok (.if_icmp .ge 36, 3) := by decide +kernel
theorem dX4_sifted_16 : decode cX4_sifted 16 = .ok (.aload_n 2, 1) := by decide +kernel
theorem dX4_sifted_17 : decode cX4_sifted 17 = .ok (.iload 4, 2) := by decide +kernel
theorem dX4_sifted_19 : decode cX4_sifted 19 = .ok (.baload, 1) := by decide +kernel
theorem dX4_sifted_20 : decode cX4_sifted 20 = .ok (.ifCond .eq 23, 3) := by decide +kernel
theorem dX4_sifted_23 : decode cX4_sifted 23 = .ok (.aload_n 0, 1) := by decide +kernel
theorem dX4_sifted_24 : decode cX4_sifted 24 = .ok (.getfield 15, 3) := by decide +kernel
theorem dX4_sifted_27 : decode cX4_sifted 27 = .ok (.iload_n 1, 1) := by decide +kernel
theorem dX4_sifted_28 : decode cX4_sifted 28 = .ok (.aaload, 1) := by decide +kernel
theorem dX4_sifted_29 : decode cX4_sifted 29 = .ok (.iload_n 3, 1) := by decide +kernel
theorem dX4_sifted_30 : decode cX4_sifted 30 = .ok (.iinc 3 1, 3) := by decide +kernel
theorem dX4_sifted_33 : decode cX4_sifted 33 = .ok (.aload_n 0, 1) := by decide +kernel
theorem dX4_sifted_34 : decode cX4_sifted 34 = .ok (.getfield 15, 3) := by decide +kernel
theorem dX4_sifted_37 : decode cX4_sifted 37 = .ok (.iload_n 1, 1) := by decide +kernel
theorem dX4_sifted_38 : decode cX4_sifted 38 = .ok (.aaload, 1) := by decide +kernel
theorem dX4_sifted_39 : decode cX4_sifted 39 = .ok (.iload 4, 2) := by decide +kernel
theorem dX4_sifted_41 : decode cX4_sifted 41 = .ok (.iaload, 1) := by decide +kernel
theorem dX4_sifted_42 : decode cX4_sifted 42 = .ok (.iastore, 1) := by decide +kernel
theorem dX4_sifted_43 : decode cX4_sifted 43 = .ok (.iinc 4 1, 3) := by decide +kernel
theorem dX4_sifted_46 : decode cX4_sifted 46 = .ok (.goto (-41), 3) := by decide +kernel
theorem dX4_sifted_49 : decode cX4_sifted 49 = .ok (.aload_n 0, 1) := by decide +kernel
theorem dX4_sifted_50 : decode cX4_sifted 50 = .ok (.getfield 18, 3) := by decide +kernel
theorem dX4_sifted_53 : decode cX4_sifted 53 = .ok (.iload_n 1, 1) := by decide +kernel
theorem dX4_sifted_54 : decode cX4_sifted 54 = .ok (.iaload, 1) := by decide +kernel
theorem dX4_sifted_55 : decode cX4_sifted 55 = .ok (.iload_n 3, 1) := by decide +kernel
theorem dX4_sifted_56 : decode cX4_sifted 56 = .ok (.isub, 1) := by decide +kernel
theorem dX4_sifted_57 : decode cX4_sifted 57 = .ok (.istore 4, 2) := by decide +kernel
theorem dX4_sifted_59 : decode cX4_sifted 59 = .ok (.aload_n 0, 1) := by decide +kernel
theorem dX4_sifted_60 : decode cX4_sifted 60 = .ok (.getfield 18, 3) := by decide +kernel
theorem dX4_sifted_63 : decode cX4_sifted 63 = .ok (.iload_n 1, 1) := by decide +kernel
theorem dX4_sifted_64 : decode cX4_sifted 64 = .ok (.iload_n 3, 1) := by decide +kernel
theorem dX4_sifted_65 : decode cX4_sifted 65 = .ok (.iastore, 1) := by decide +kernel
theorem dX4_sifted_66 : decode cX4_sifted 66 = .ok (.aload_n 0, 1) := by decide +kernel
theorem dX4_sifted_67 : decode cX4_sifted 67 = .ok (.iload 4, 2) := by decide +kernel
theorem dX4_sifted_69 : decode cX4_sifted 69 = .ok (.invokevirtual 92, 3) := by decide +kernel
theorem dX4_sifted_72 : decode cX4_sifted 72 = .ok (.ireturn, 1) := by decide +kernel
theorem dX4_keep_0 : decode cX4_keep 0 = .ok (.aload_n 0, 1) := by decide +kernel
theorem dX4_keep_1 : decode cX4_keep 1 = .ok (.iload_n 1, 1) := by decide +kernel
theorem dX4_keep_2 : decode cX4_keep 2 = .ok (.invokestatic 70, 3) := by decide +kernel
theorem dX4_keep_5 : decode cX4_keep 5 = .ok (.ifCond .ne 7, 3) := by decide +kernel
theorem dX4_keep_8 : decode cX4_keep 8 = .ok (.iconst 1, 1) := by decide +kernel
theorem dX4_keep_9 : decode cX4_keep 9 = .ok (.goto 4, 3) := by decide +kernel
theorem dX4_keep_12 : decode cX4_keep 12 = .ok (.iconst 0, 1) := by decide +kernel
theorem dX4_keep_13 : decode cX4_keep 13 = .ok (.iload_n 2, 1) := by decide +kernel
theorem dX4_keep_14 : decode cX4_keep 14 = .ok (.invokestatic 107, 3) := by decide +kernel
theorem dX4_keep_17 : decode cX4_keep 17 = .ok (.ifCond .ne 7, 3) := by decide +kernel
theorem dX4_keep_20 : decode cX4_keep 20 = .ok (.iconst 1, 1) := by decide +kernel
theorem dX4_keep_21 : decode cX4_keep 21 = .ok (.goto 4, 3) := by decide +kernel
theorem dX4_keep_24 : decode cX4_keep 24 = .ok (.iconst 0, 1) := by decide +kernel
theorem dX4_keep_25 : decode cX4_keep 25 = .ok (.invokevirtual 73, 3) := by decide +kernel
theorem dX4_keep_28 : decode cX4_keep 28 = .ok (.ifCond .eq 5, 3) := by decide +kernel
theorem dX4_keep_31 : decode cX4_keep 31 = .ok (.iconst 0, 1) := by decide +kernel
theorem dX4_keep_32 : decode cX4_keep 32 = .ok (.ireturn, 1) := by decide +kernel
theorem dX4_keep_33 : decode cX4_keep 33 = .ok (.bipush 30, 2) := by decide +kernel
theorem dX4_keep_35 : decode cX4_keep 35 = .ok (.newarray .boolean, 2) := by decide +kernel
theorem dX4_keep_37 : decode cX4_keep 37 = .ok (.astore 4, 2) := by decide +kernel
theorem dX4_keep_39 : decode cX4_keep 39 = .ok (.iconst 0, 1) := by decide +kernel
theorem dX4_keep_40 : decode cX4_keep 40 = .ok (.istore 5, 2) := by decide +kernel
theorem dX4_keep_42 : decode cX4_keep 42 = .ok (.iload 5, 2) := by decide +kernel
theorem dX4_keep_44 : decode cX4_keep 44 = .ok (.aload_n 0, 1) := by decide +kernel
theorem dX4_keep_45 : decode cX4_keep 45 = .ok (.getfield 18, 3) := by decide +kernel
theorem dX4_keep_48 : decode cX4_keep 48 = .ok (.iload_n 1, 1) := by decide +kernel
theorem dX4_keep_49 : decode cX4_keep 49 = .ok (.iaload, 1) := by decide +kernel
theorem dX4_keep_50 : decode cX4_keep 50 = .ok (.if_icmp .ge 37, 3) := by decide +kernel
theorem dX4_keep_53 : decode cX4_keep 53 = .ok (.aload 4, 2) := by decide +kernel
theorem dX4_keep_55 : decode cX4_keep 55 = .ok (.iload 5, 2) := by decide +kernel
theorem dX4_keep_57 : decode cX4_keep 57 = .ok (.aload_n 0, 1) := by decide +kernel
theorem dX4_keep_58 : decode cX4_keep 58 = .ok (.aload_n 0, 1) := by decide +kernel
theorem dX4_keep_59 : decode cX4_keep 59 = .ok (.getfield 15, 3) := by decide +kernel
