theorem d_md_init_0 : decode b_md_init 0 = .ok (.aload_n 0, 1) := by decide +kernel
theorem d_md_init_1 : decode b_md_init 1 = .ok (.invokespecial 1, 3) := by decide +kernel
theorem d_md_init_4 : decode b_md_init 4 = .ok (.aload_n 0, 1) := by decide +kernel
theorem d_md_init_5 : decode b_md_init 5 = .ok (.bipush (-2), 2) := by decide +kernel
theorem d_md_init_7 : decode b_md_init 7 = .ok (.putfield 7, 3) := by decide +kernel
theorem d_md_init_10 : decode b_md_init 10 = .ok (.aload_n 0, 1) := by decide +kernel
theorem d_md_init_11 : decode b_md_init 11 = .ok (.bipush 60, 2) := by decide +kernel
theorem d_md_init_13 : decode b_md_init 13 = .ok (.newarray .int, 2) := by decide +kernel
theorem d_md_init_15 : decode b_md_init 15 = .ok (.putfield 13, 3) := by decide +kernel
theorem d_md_init_18 : decode b_md_init 18 = .ok (.aload_n 0, 1) := by decide +kernel
theorem d_md_init_19 : decode b_md_init 19 = .ok (.iconst 4, 1) := by decide +kernel
theorem d_md_init_20 : decode b_md_init 20 = .ok (.newarray .int, 2) := by decide +kernel
theorem d_md_init_22 : decode b_md_init 22 = .ok (.putfield 17, 3) := by decide +kernel
theorem d_md_init_25 : decode b_md_init 25 = .ok (.aload_n 0, 1) := by decide +kernel
theorem d_md_init_26 : decode b_md_init 26 = .ok (.iconst 4, 1) := by decide +kernel
theorem d_md_init_27 : decode b_md_init 27 = .ok (.newarray .int, 2) := by decide +kernel
theorem d_md_init_29 : decode b_md_init 29 = .ok (.putfield 20, 3) := by decide +kernel
theorem d_md_init_32 : decode b_md_init 32 = .ok (.aload_n 0, 1) := by decide +kernel
theorem d_md_init_33 : decode b_md_init 33 = .ok (.iconst 4, 1) := by decide +kernel
theorem d_md_init_34 : decode b_md_init 34 = .ok (.newarray .int, 2) := by decide +kernel
theorem d_md_init_36 : decode b_md_init 36 = .ok (.putfield 23, 3) := by decide +kernel
theorem d_md_init_39 : decode b_md_init 39 = .ok (.aload_n 0, 1) := by decide +kernel
theorem d_md_init_40 : decode b_md_init 40 = .ok (.iconst 4, 1) := by decide +kernel
theorem d_md_init_41 : decode b_md_init 41 = .ok (.newarray .int, 2) := by decide +kernel
theorem d_md_init_43 : decode b_md_init 43 = .ok (.putfield 26, 3) := by decide +kernel
theorem d_md_init_46 : decode b_md_init 46 = .ok (.aload_n 0, 1) := by decide +kernel
theorem d_md_init_47 : decode b_md_init 47 = .ok (.iconst 4, 1) := by decide +kernel
theorem d_md_init_48 : decode b_md_init 48 = .ok (.newarray .int, 2) := by decide +kernel
theorem d_md_init_50 : decode b_md_init 50 = .ok (.putfield 29, 3) := by decide +kernel
theorem d_md_init_53 : decode b_md_init 53 = .ok (.aload_n 0, 1) := by decide +kernel
theorem d_md_init_54 : decode b_md_init 54 = .ok (.iconst 4, 1) := by decide +kernel
theorem d_md_init_55 : decode b_md_init 55 = .ok (.newarray .int, 2) := by decide +kernel
theorem d_md_init_57 : decode b_md_init 57 = .ok (.putfield 32, 3) := by decide +kernel
theorem d_md_init_60 : decode b_md_init 60 = .ok (.aload_n 0, 1) := by decide +kernel
theorem d_md_init_61 : decode b_md_init 61 = .ok (.iconst 4, 1) := by decide +kernel
theorem d_md_init_62 : decode b_md_init 62 = .ok (.newarray .int, 2) := by decide +kernel
theorem d_md_init_64 : decode b_md_init 64 = .ok (.putfield 35, 3) := by decide +kernel
theorem d_md_init_67 : decode b_md_init 67 = .ok (.aload_n 0, 1) := by decide +kernel
theorem d_md_init_68 : decode b_md_init 68 = .ok (.bipush 16, 2) := by decide +kernel
theorem d_md_init_70 : decode b_md_init 70 = .ok (.newarray .int, 2) := by decide +kernel
theorem d_md_init_72 : decode b_md_init 72 = .ok (.putfield 38, 3) := by decide +kernel
theorem d_md_init_75 : decode b_md_init 75 = .ok (.aload_n 0, 1) := by decide +kernel
theorem d_md_init_76 : decode b_md_init 76 = .ok (.bipush 16, 2) := by decide +kernel
theorem d_md_init_78 : decode b_md_init 78 = .ok (.newarray .int, 2) := by decide +kernel
theorem d_md_init_80 : decode b_md_init 80 = .ok (.putfield 41, 3) := by decide +kernel
theorem d_md_init_83 : decode b_md_init 83 = .ok (.aload_n 0, 1) := by decide +kernel
theorem d_md_init_84 : decode b_md_init 84 = .ok (.iconst 5, 1) := by decide +kernel
theorem d_md_init_85 : decode b_md_init 85 = .ok (.newarray .int, 2) := by decide +kernel
theorem d_md_init_87 : decode b_md_init 87 = .ok (.dup, 1) := by decide +kernel
theorem d_md_init_88 : decode b_md_init 88 = .ok (.iconst 0, 1) := by decide +kernel
theorem d_md_init_89 : decode b_md_init 89 = .ok (.iconst (-1), 1) := by decide +kernel
theorem d_md_init_90 : decode b_md_init 90 = .ok (.iastore, 1) := by decide +kernel
theorem d_md_init_91 : decode b_md_init 91 = .ok (.dup, 1) := by decide +kernel
theorem d_md_init_92 : decode b_md_init 92 = .ok (.iconst 1, 1) := by decide +kernel
theorem d_md_init_93 : decode b_md_init 93 = .ok (.iconst (-1), 1) := by decide +kernel
theorem d_md_init_94 : decode b_md_init 94 = .ok (.iastore, 1) := by decide +kernel
theorem d_md_init_95 : decode b_md_init 95 = .ok (.dup, 1) := by decide +kernel
theorem d_md_init_96 : decode b_md_init 96 = .ok (.iconst 2, 1) := by decide +kernel
theorem d_md_init_97 : decode b_md_init 97 = .ok (.iconst (-1), 1) := by decide +kernel
theorem d_md_init_98 : decode b_md_init 98 = .ok (.iastore, 1) := by decide +kernel
theorem d_md_init_99 : decode b_md_init 99 = .ok (.dup, 1) := by decide +kernel
theorem d_md_init_100 : decode b_md_init 100 = .ok (.iconst 3, 1) := by decide +kernel
theorem d_md_init_101 : decode b_md_init 101 = .ok (.iconst (-1), 1) := by decide +kernel
theorem d_md_init_102 : decode b_md_init 102 = .ok (.iastore, 1) := by decide +kernel
theorem d_md_init_103 : decode b_md_init 103 = .ok (.dup, 1) := by decide +kernel
theorem d_md_init_104 : decode b_md_init 104 = .ok (.iconst 4, 1) := by decide +kernel
theorem d_md_init_105 : decode b_md_init 105 = .ok (.iconst (-1), 1) := by decide +kernel
theorem d_md_init_106 : decode b_md_init 106 = .ok (.iastore, 1) := by decide +kernel
theorem d_md_init_107 : decode b_md_init 107 = .ok (.putfield 44, 3) := by decide +kernel
theorem d_md_init_110 : decode b_md_init 110 = .ok (.aload_n 0, 1) := by decide +kernel
theorem d_md_init_111 : decode b_md_init 111 = .ok (.iconst 5, 1) := by decide +kernel
theorem d_md_init_112 : decode b_md_init 112 = .ok (.newarray .int, 2) := by decide +kernel
theorem d_md_init_114 : decode b_md_init 114 = .ok (.putfield 47, 3) := by decide +kernel
theorem d_md_init_117 : decode b_md_init 117 = .ok (.aload_n 0, 1) := by decide +kernel
theorem d_md_init_118 : decode b_md_init 118 = .ok (.iconst 5, 1) := by decide +kernel
theorem d_md_init_119 : decode b_md_init 119 = .ok (.newarray .int, 2) := by decide +kernel
theorem d_md_init_121 : decode b_md_init 121 = .ok (.putfield 50, 3) := by decide +kernel
theorem d_md_init_124 : decode b_md_init 124 = .ok (.aload_n 0, 1) := by decide +kernel
theorem d_md_init_125 : decode b_md_init 125 = .ok (.iconst 5, 1) := by decide +kernel
theorem d_md_init_126 : decode b_md_init 126 = .ok (.newarray .long, 2) := by decide +kernel
theorem d_md_init_128 : decode b_md_init 128 = .ok (.putfield 53, 3) := by decide +kernel
theorem d_md_init_131 : decode b_md_init 131 = .ok (.aload_n 0, 1) := by decide +kernel
theorem d_md_init_132 : decode b_md_init 132 = .ok (.sipush 2005, 3) := by decide +kernel
theorem d_md_init_135 : decode b_md_init 135 = .ok (.newarray .int, 2) := by decide +kernel
theorem d_md_init_137 : decode b_md_init 137 = .ok (.putfield 57, 3) := by decide +kernel
theorem d_md_init_140 : decode b_md_init 140 = .ok (.aload_n 0, 1) := by decide +kernel
theorem d_md_init_141 : decode b_md_init 141 = .ok (.bipush 80, 2) := by decide +kernel
theorem d_md_init_143 : decode b_md_init 143 = .ok (.newarray .int, 2) := by decide +kernel
theorem d_md_init_145 : decode b_md_init 145 = .ok (.putfield 60, 3) := by decide +kernel
theorem d_md_init_148 : decode b_md_init 148 = .ok (.aload_n 0, 1) := by decide +kernel
theorem d_md_init_149 : decode b_md_init 149 = .ok (.bipush 80, 2) := by decide +kernel
theorem d_md_init_151 : decode b_md_init 151 = .ok (.newarray .int, 2) := by decide +kernel
theorem d_md_init_153 : decode b_md_init 153 = .ok (.putfield 63, 3) := by decide +kernel
theorem d_md_init_156 : decode b_md_init 156 = .ok (.aload_n 0, 1) := by decide +kernel
theorem d_md_init_157 : decode b_md_init 157 = .ok (.bipush 80, 2) := by decide +kernel
theorem d_md_init_159 : decode b_md_init 159 = .ok (.newarray .int, 2) := by decide +kernel
theorem d_md_init_161 : decode b_md_init 161 = .ok (.putfield 66, 3) := by decide +kernel
theorem d_md_init_164 : decode b_md_init 164 = .ok (.aload_n 0, 1) := by decide +kernel
theorem d_md_init_165 : decode b_md_init 165 = .ok (.bipush 80, 2) := by decide +kernel
theorem d_md_init_167 : decode b_md_init 167 = .ok (.newarray .int, 2) := by decide +kernel
theorem d_md_init_169 : decode b_md_init 169 = .ok (.putfield 69, 3) := by decide +kernel
theorem d_md_init_172 : decode b_md_init 172 = .ok (.aload_n 0, 1) := by decide +kernel
theorem d_md_init_173 : decode b_md_init 173 = .ok (.bipush 50, 2) := by decide +kernel
theorem d_md_init_175 : decode b_md_init 175 = .ok (.newarray .int, 2) := by decide +kernel
theorem d_md_init_177 : decode b_md_init 177 = .ok (.putfield 72, 3) := by decide +kernel
theorem d_md_init_180 : decode b_md_init 180 = .ok (.aload_n 0, 1) := by decide +kernel
theorem d_md_init_181 : decode b_md_init 181 = .ok (.bipush 50, 2) := by decide +kernel
theorem d_md_init_183 : decode b_md_init 183 = .ok (.newarray .int, 2) := by decide +kernel
theorem d_md_init_185 : decode b_md_init 185 = .ok (.putfield 75, 3) := by decide +kernel
theorem d_md_init_188 : decode b_md_init 188 = .ok (.aload_n 0, 1) := by decide +kernel
theorem d_md_init_189 : decode b_md_init 189 = .ok (.bipush 50, 2) := by decide +kernel
theorem d_md_init_191 : decode b_md_init 191 = .ok (.newarray .int, 2) := by decide +kernel
theorem d_md_init_193 : decode b_md_init 193 = .ok (.putfield 78, 3) := by decide +kernel
theorem d_md_init_196 : decode b_md_init 196 = .ok (.aload_n 0, 1) := by decide +kernel
theorem d_md_init_197 : decode b_md_init 197 = .ok (.bipush 50, 2) := by decide +kernel
theorem d_md_init_199 : decode b_md_init 199 = .ok (.newarray .long, 2) := by decide +kernel
theorem d_md_init_201 : decode b_md_init 201 = .ok (.putfield 81, 3) := by decide +kernel
theorem d_md_init_204 : decode b_md_init 204 = .ok (.aload_n 0, 1) := by decide +kernel
theorem d_md_init_205 : decode b_md_init 205 = .ok (.bipush 50, 2) := by decide +kernel
theorem d_md_init_207 : decode b_md_init 207 = .ok (.newarray .long, 2) := by decide +kernel
theorem d_md_init_209 : decode b_md_init 209 = .ok (.putfield 84, 3) := by decide +kernel
theorem d_md_init_212 : decode b_md_init 212 = .ok (.aload_n 0, 1) := by decide +kernel
theorem d_md_init_213 : decode b_md_init 213 = .ok (.bipush 10, 2) := by decide +kernel
theorem d_md_init_215 : decode b_md_init 215 = .ok (.newarray .int, 2) := by decide +kernel
theorem d_md_init_217 : decode b_md_init 217 = .ok (.putfield 87, 3) := by decide +kernel
theorem d_md_init_220 : decode b_md_init 220 = .ok (.aload_n 0, 1) := by decide +kernel
theorem d_md_init_221 : decode b_md_init 221 = .ok (.bipush 10, 2) := by decide +kernel
theorem d_md_init_223 : decode b_md_init 223 = .ok (.newarray .int, 2) := by decide +kernel
theorem d_md_init_225 : decode b_md_init 225 = .ok (.putfield 90, 3) := by decide +kernel
theorem d_md_init_228 : decode b_md_init 228 = .ok (.aload_n 0, 1) := by decide +kernel
theorem d_md_init_229 : decode b_md_init 229 = .ok (.bipush 10, 2) := by decide +kernel
theorem d_md_init_231 : decode b_md_init 231 = .ok (.newarray .int, 2) := by decide +kernel
theorem d_md_init_233 : decode b_md_init 233 = .ok (.putfield 93, 3) := by decide +kernel
theorem d_md_init_236 : decode b_md_init 236 = .ok (.aload_n 0, 1) := by decide +kernel
theorem d_md_init_237 : decode b_md_init 237 = .ok (.bipush 10, 2) := by decide +kernel
theorem d_md_init_239 : decode b_md_init 239 = .ok (.newarray .long, 2) := by decide +kernel
theorem d_md_init_241 : decode b_md_init 241 = .ok (.putfield 96, 3) := by decide +kernel
theorem d_md_init_244 : decode b_md_init 244 = .ok (.return_, 1) := by decide +kernel
theorem d_md_in_0 : decode b_md_in 0 = .ok (.lload_n 0, 1) := by decide +kernel
theorem d_md_in_1 : decode b_md_in 1 = .ok (.lload_n 2, 1) := by decide +kernel
theorem d_md_in_2 : decode b_md_in 2 = .ok (.lcmp, 1) := by decide +kernel
theorem d_md_in_3 : decode b_md_in 3 = .ok (.ifCond .lt 14, 3) := by decide +kernel
theorem d_md_in_6 : decode b_md_in 6 = .ok (.lload_n 0, 1) := by decide +kernel
theorem d_md_in_7 : decode b_md_in 7 = .ok (.lload 4, 2) := by decide +kernel
theorem d_md_in_9 : decode b_md_in 9 = .ok (.lcmp, 1) := by decide +kernel
theorem d_md_in_10 : decode b_md_in 10 = .ok (.ifCond .gt 7, 3) := by decide +kernel
theorem d_md_in_13 : decode b_md_in 13 = .ok (.iconst 1, 1) := by decide +kernel
theorem d_md_in_14 : decode b_md_in 14 = .ok (.goto 4, 3) := by decide +kernel
theorem d_md_in_17 : decode b_md_in 17 = .ok (.iconst 0, 1) := by decide +kernel
theorem d_md_in_18 : decode b_md_in 18 = .ok (.ireturn, 1) := by decide +kernel
theorem d_md_refuse_0 : decode b_md_refuse 0 = .ok (.aload_n 0, 1) := by decide +kernel
theorem d_md_refuse_1 : decode b_md_refuse 1 = .ok (.iload_n 1, 1) := by decide +kernel
theorem d_md_refuse_2 : decode b_md_refuse 2 = .ok (.putfield 99, 3) := by decide +kernel
theorem d_md_refuse_5 : decode b_md_refuse 5 = .ok (.iconst 0, 1) := by decide +kernel
theorem d_md_refuse_6 : decode b_md_refuse 6 = .ok (.ireturn, 1) := by decide +kernel
theorem d_md_text_0 : decode b_md_text 0 = .ok (.iconst 0, 1) := by decide +kernel
theorem d_md_text_1 : decode b_md_text 1 = .ok (.istore_n 3, 1) := by decide +kernel
theorem d_md_text_2 : decode b_md_text 2 = .ok (.aload_n 0, 1) := by decide +kernel
theorem d_md_text_3 : decode b_md_text 3 = .ok (.iconst 0, 1) := by decide +kernel
theorem d_md_text_4 : decode b_md_text 4 = .ok (.putfield 99, 3) := by decide +kernel
theorem d_md_text_7 : decode b_md_text 7 = .ok (.iconst 0, 1) := by decide +kernel
theorem d_md_text_8 : decode b_md_text 8 = .ok (.istore 4, 2) := by decide +kernel
theorem d_md_text_10 : decode b_md_text 10 = .ok (.iload 4, 2) := by decide +kernel
theorem d_md_text_12 : decode b_md_text 12 = .ok (.bipush 8, 2) := by decide +kernel
theorem d_md_text_14 : decode b_md_text 14 = .ok (.if_icmp .ge 57, 3) := by decide +kernel
theorem d_md_text_17 : decode b_md_text 17 = .ok (.lload_n 1, 1) := by decide +kernel
theorem d_md_text_18 : decode b_md_text 18 = .ok (.bipush 8, 2) := by decide +kernel
theorem d_md_text_20 : decode b_md_text 20 = .ok (.iload 4, 2) := by decide +kernel
theorem d_md_text_22 : decode b_md_text 22 = .ok (.imul, 1) := by decide +kernel
theorem d_md_text_23 : decode b_md_text 23 = .ok (.lushr, 1) := by decide +kernel
theorem d_md_text_24 : decode b_md_text 24 = .ok (.l2i, 1) := by decide +kernel
theorem d_md_text_25 : decode b_md_text 25 = .ok (.sipush 255, 3) := by decide +kernel
theorem d_md_text_28 : decode b_md_text 28 = .ok (.iand, 1) := by decide +kernel
theorem d_md_text_29 : decode b_md_text 29 = .ok (.istore 5, 2) := by decide +kernel
theorem d_md_text_31 : decode b_md_text 31 = .ok (.iload 5, 2) := by decide +kernel
theorem d_md_text_33 : decode b_md_text 33 = .ok (.ifCond .eq 24, 3) := by decide +kernel
theorem d_md_text_36 : decode b_md_text 36 = .ok (.iload 5, 2) := by decide +kernel
theorem d_md_text_38 : decode b_md_text 38 = .ok (.i2l, 1) := by decide +kernel
theorem d_md_text_39 : decode b_md_text 39 = .ok (.ldc2_w 102, 3) := by decide +kernel
theorem d_md_text_42 : decode b_md_text 42 = .ok (.ldc2_w 104, 3) := by decide +kernel
theorem d_md_text_45 : decode b_md_text 45 = .ok (.invokestatic 106, 3) := by decide +kernel
theorem d_md_text_48 : decode b_md_text 48 = .ok (.ifCond .ne 9, 3) := by decide +kernel
theorem d_md_text_51 : decode b_md_text 51 = .ok (.aload_n 0, 1) := by decide +kernel
theorem d_md_text_52 : decode b_md_text 52 = .ok (.iconst 1, 1) := by decide +kernel
theorem d_md_text_53 : decode b_md_text 53 = .ok (.invokevirtual 110, 3) := by decide +kernel
theorem d_md_text_56 : decode b_md_text 56 = .ok (.ireturn, 1) := by decide +kernel
theorem d_md_text_57 : decode b_md_text 57 = .ok (.iload 5, 2) := by decide +kernel
theorem d_md_text_59 : decode b_md_text 59 = .ok (.ifCond .eq 6, 3) := by decide +kernel
theorem d_md_text_62 : decode b_md_text 62 = .ok (.iinc 3 1, 3) := by decide +kernel
theorem d_md_text_65 : decode b_md_text 65 = .ok (.iinc 4 1, 3) := by decide +kernel
theorem d_md_text_68 : decode b_md_text 68 = .ok (.goto (-58), 3) := by decide +kernel
theorem d_md_text_71 : decode b_md_text 71 = .ok (.aload_n 0, 1) := by decide +kernel
theorem d_md_text_72 : decode b_md_text 72 = .ok (.getfield 114, 3) := by decide +kernel
theorem d_md_text_75 : decode b_md_text 75 = .ok (.iload_n 3, 1) := by decide +kernel
theorem d_md_text_76 : decode b_md_text 76 = .ok (.iadd, 1) := by decide +kernel
theorem d_md_text_77 : decode b_md_text 77 = .ok (.bipush 60, 2) := by decide +kernel
theorem d_md_text_79 : decode b_md_text 79 = .ok (.if_icmp .le 9, 3) := by decide +kernel
theorem d_md_text_82 : decode b_md_text 82 = .ok (.aload_n 0, 1) := by decide +kernel
theorem d_md_text_83 : decode b_md_text 83 = .ok (.iconst 2, 1) := by decide +kernel
theorem d_md_text_84 : decode b_md_text 84 = .ok (.invokevirtual 110, 3) := by decide +kernel
theorem d_md_text_87 : decode b_md_text 87 = .ok (.ireturn, 1) := by decide +kernel
theorem d_md_text_88 : decode b_md_text 88 = .ok (.bipush 7, 2) := by decide +kernel
theorem d_md_text_90 : decode b_md_text 90 = .ok (.istore 4, 2) := by decide +kernel
theorem d_md_text_92 : decode b_md_text 92 = .ok (.iload 4, 2) := by decide +kernel
theorem d_md_text_94 : decode b_md_text 94 = .ok (.ifCond .lt 52, 3) := by decide +kernel
theorem d_md_text_97 : decode b_md_text 97 = .ok (.lload_n 1, 1) := by decide +kernel
theorem d_md_text_98 : decode b_md_text 98 = .ok (.bipush 8, 2) := by decide +kernel
theorem d_md_text_100 : decode b_md_text 100 = .ok (.iload 4, 2) := by decide +kernel
theorem d_md_text_102 : decode b_md_text 102 = .ok (.imul, 1) := by decide +kernel
theorem d_md_text_103 : decode b_md_text 103 = .ok (.lushr, 1) := by decide +kernel
theorem d_md_text_104 : decode b_md_text 104 = .ok (.l2i, 1) := by decide +kernel
theorem d_md_text_105 : decode b_md_text 105 = .ok (.sipush 255, 3) := by decide +kernel
theorem d_md_text_108 : decode b_md_text 108 = .ok (.iand, 1) := by decide +kernel
theorem d_md_text_109 : decode b_md_text 109 = .ok (.istore 5, 2) := by decide +kernel
theorem d_md_text_111 : decode b_md_text 111 = .ok (.iload 5, 2) := by decide +kernel
theorem d_md_text_113 : decode b_md_text 113 = .ok (.ifCond .ne 6, 3) := by decide +kernel
theorem d_md_text_116 : decode b_md_text 116 = .ok (.goto 24, 3) := by decide +kernel
theorem d_md_text_119 : decode b_md_text 119 = .ok (.aload_n 0, 1) := by decide +kernel
theorem d_md_text_120 : decode b_md_text 120 = .ok (.getfield 13, 3) := by decide +kernel
theorem d_md_text_123 : decode b_md_text 123 = .ok (.aload_n 0, 1) := by decide +kernel
theorem d_md_text_124 : decode b_md_text 124 = .ok (.getfield 114, 3) := by decide +kernel
theorem d_md_text_127 : decode b_md_text 127 = .ok (.iload 5, 2) := by decide +kernel
theorem d_md_text_129 : decode b_md_text 129 = .ok (.iastore, 1) := by decide +kernel
theorem d_md_text_130 : decode b_md_text 130 = .ok (.aload_n 0, 1) := by decide +kernel
theorem d_md_text_131 : decode b_md_text 131 = .ok (.dup, 1) := by decide +kernel
theorem d_md_text_132 : decode b_md_text 132 = .ok (.getfield 114, 3) := by decide +kernel
theorem d_md_text_135 : decode b_md_text 135 = .ok (.iconst 1, 1) := by decide +kernel
theorem d_md_text_136 : decode b_md_text 136 = .ok (.iadd, 1) := by decide +kernel
theorem d_md_text_137 : decode b_md_text 137 = .ok (.putfield 114, 3) := by decide +kernel
theorem d_md_text_140 : decode b_md_text 140 = .ok (.iinc 4 (-1), 3) := by decide +kernel
theorem d_md_text_143 : decode b_md_text 143 = .ok (.goto (-51), 3) := by decide +kernel
theorem d_md_text_146 : decode b_md_text 146 = .ok (.aload_n 0, 1) := by decide +kernel
theorem d_md_text_147 : decode b_md_text 147 = .ok (.getfield 114, 3) := by decide +kernel
theorem d_md_text_150 : decode b_md_text 150 = .ok (.ireturn, 1) := by decide +kernel
theorem d_md_look_0 : decode b_md_look 0 = .ok (.aload_n 0, 1) := by decide +kernel
theorem d_md_look_1 : decode b_md_look 1 = .ok (.getfield 117, 3) := by decide +kernel
theorem d_md_look_4 : decode b_md_look 4 = .ok (.aload_n 0, 1) := by decide +kernel
theorem d_md_look_5 : decode b_md_look 5 = .ok (.getfield 114, 3) := by decide +kernel
theorem d_md_look_8 : decode b_md_look 8 = .ok (.if_icmp .ge 15, 3) := by decide +kernel
theorem d_md_look_11 : decode b_md_look 11 = .ok (.aload_n 0, 1) := by decide +kernel
theorem d_md_look_12 : decode b_md_look 12 = .ok (.getfield 13, 3) := by decide +kernel
theorem d_md_look_15 : decode b_md_look 15 = .ok (.aload_n 0, 1) := by decide +kernel
theorem d_md_look_16 : decode b_md_look 16 = .ok (.getfield 117, 3) := by decide +kernel
theorem d_md_look_19 : decode b_md_look 19 = .ok (.iaload, 1) := by decide +kernel
theorem d_md_look_20 : decode b_md_look 20 = .ok (.goto 4, 3) := by decide +kernel
theorem d_md_look_23 : decode b_md_look 23 = .ok (.iconst 0, 1) := by decide +kernel
theorem d_md_look_24 : decode b_md_look 24 = .ok (.ireturn, 1) := by decide +kernel
theorem d_md_blanks_0 : decode b_md_blanks 0 = .ok (.aload_n 0, 1) := by decide +kernel
theorem d_md_blanks_1 : decode b_md_blanks 1 = .ok (.invokevirtual 120, 3) := by decide +kernel
theorem d_md_blanks_4 : decode b_md_blanks 4 = .ok (.bipush 32, 2) := by decide +kernel
theorem d_md_blanks_6 : decode b_md_blanks 6 = .ok (.if_icmp .ne 16, 3) := by decide +kernel
theorem d_md_blanks_9 : decode b_md_blanks 9 = .ok (.aload_n 0, 1) := by decide +kernel
theorem d_md_blanks_10 : decode b_md_blanks 10 = .ok (.dup, 1) := by decide +kernel
theorem d_md_blanks_11 : decode b_md_blanks 11 = .ok (.getfield 117, 3) := by decide +kernel
theorem d_md_blanks_14 : decode b_md_blanks 14 = .ok (.iconst 1, 1) := by decide +kernel
theorem d_md_blanks_15 : decode b_md_blanks 15 = .ok (.iadd, 1) := by decide +kernel
theorem d_md_blanks_16 : decode b_md_blanks 16 = .ok (.putfield 117, 3) := by decide +kernel
theorem d_md_blanks_19 : decode b_md_blanks 19 = .ok (.goto (-19), 3) := by decide +kernel
theorem d_md_blanks_22 : decode b_md_blanks 22 = .ok (.return_, 1) := by decide +kernel
theorem d_md_isDigit_0 : decode b_md_isDigit 0 = .ok (.iload_n 0, 1) := by decide +kernel
theorem d_md_isDigit_1 : decode b_md_isDigit 1 = .ok (.i2l, 1) := by decide +kernel
theorem d_md_isDigit_2 : decode b_md_isDigit 2 = .ok (.ldc2_w 124, 3) := by decide +kernel
theorem d_md_isDigit_5 : decode b_md_isDigit 5 = .ok (.ldc2_w 126, 3) := by decide +kernel
theorem d_md_isDigit_8 : decode b_md_isDigit 8 = .ok (.invokestatic 106, 3) := by decide +kernel
theorem d_md_isDigit_11 : decode b_md_isDigit 11 = .ok (.ireturn, 1) := by decide +kernel
theorem d_md_number_0 : decode b_md_number 0 = .ok (.aload_n 0, 1) := by decide +kernel
theorem d_md_number_1 : decode b_md_number 1 = .ok (.invokevirtual 128, 3) := by decide +kernel
theorem d_md_number_4 : decode b_md_number 4 = .ok (.aload_n 0, 1) := by decide +kernel
theorem d_md_number_5 : decode b_md_number 5 = .ok (.getfield 117, 3) := by decide +kernel
theorem d_md_number_8 : decode b_md_number 8 = .ok (.istore_n 2, 1) := by decide +kernel
theorem d_md_number_9 : decode b_md_number 9 = .ok (.iconst 0, 1) := by decide +kernel
theorem d_md_number_10 : decode b_md_number 10 = .ok (.istore_n 3, 1) := by decide +kernel
theorem d_md_number_11 : decode b_md_number 11 = .ok (.iconst 0, 1) := by decide +kernel
theorem d_md_number_12 : decode b_md_number 12 = .ok (.istore 4, 2) := by decide +kernel
theorem d_md_number_14 : decode b_md_number 14 = .ok (.iload_n 3, 1) := by decide +kernel
theorem d_md_number_15 : decode b_md_number 15 = .ok (.iconst 5, 1) := by decide +kernel
theorem d_md_number_16 : decode b_md_number 16 = .ok (.if_icmp .ge 44, 3) := by decide +kernel
theorem d_md_number_19 : decode b_md_number 19 = .ok (.aload_n 0, 1) := by decide +kernel
theorem d_md_number_20 : decode b_md_number 20 = .ok (.invokevirtual 120, 3) := by decide +kernel
theorem d_md_number_23 : decode b_md_number 23 = .ok (.invokestatic 131, 3) := by decide +kernel
theorem d_md_number_26 : decode b_md_number 26 = .ok (.ifCond .eq 34, 3) := by decide +kernel
theorem d_md_number_29 : decode b_md_number 29 = .ok (.bipush 10, 2) := by decide +kernel
theorem d_md_number_31 : decode b_md_number 31 = .ok (.iload 4, 2) := by decide +kernel
theorem d_md_number_33 : decode b_md_number 33 = .ok (.imul, 1) := by decide +kernel
theorem d_md_number_34 : decode b_md_number 34 = .ok (.aload_n 0, 1) := by decide +kernel
theorem d_md_number_35 : decode b_md_number 35 = .ok (.invokevirtual 120, 3) := by decide +kernel
theorem d_md_number_38 : decode b_md_number 38 = .ok (.iadd, 1) := by decide +kernel
theorem d_md_number_39 : decode b_md_number 39 = .ok (.bipush 48, 2) := by decide +kernel
theorem d_md_number_41 : decode b_md_number 41 = .ok (.isub, 1) := by decide +kernel
theorem d_md_number_42 : decode b_md_number 42 = .ok (.istore 4, 2) := by decide +kernel
theorem d_md_number_44 : decode b_md_number 44 = .ok (.aload_n 0, 1) := by decide +kernel
theorem d_md_number_45 : decode b_md_number 45 = .ok (.dup, 1) := by decide +kernel
theorem d_md_number_46 : decode b_md_number 46 = .ok (.getfield 117, 3) := by decide +kernel
theorem d_md_number_49 : decode b_md_number 49 = .ok (.iconst 1, 1) := by decide +kernel
theorem d_md_number_50 : decode b_md_number 50 = .ok (.iadd, 1) := by decide +kernel
theorem d_md_number_51 : decode b_md_number 51 = .ok (.putfield 117, 3) := by decide +kernel
theorem d_md_number_54 : decode b_md_number 54 = .ok (.iinc 3 1, 3) := by decide +kernel
theorem d_md_number_57 : decode b_md_number 57 = .ok (.goto (-43), 3) := by decide +kernel
theorem d_md_number_60 : decode b_md_number 60 = .ok (.iload_n 3, 1) := by decide +kernel
theorem d_md_number_61 : decode b_md_number 61 = .ok (.ifCond .eq 13, 3) := by decide +kernel
theorem d_md_number_64 : decode b_md_number 64 = .ok (.aload_n 0, 1) := by decide +kernel
theorem d_md_number_65 : decode b_md_number 65 = .ok (.invokevirtual 120, 3) := by decide +kernel
theorem d_md_number_68 : decode b_md_number 68 = .ok (.invokestatic 131, 3) := by decide +kernel
theorem d_md_number_71 : decode b_md_number 71 = .ok (.ifCond .eq 13, 3) := by decide +kernel
theorem d_md_number_74 : decode b_md_number 74 = .ok (.aload_n 0, 1) := by decide +kernel
theorem d_md_number_75 : decode b_md_number 75 = .ok (.aload_n 0, 1) := by decide +kernel
theorem d_md_number_76 : decode b_md_number 76 = .ok (.getfield 117, 3) := by decide +kernel
theorem d_md_number_79 : decode b_md_number 79 = .ok (.putfield 7, 3) := by decide +kernel
theorem d_md_number_82 : decode b_md_number 82 = .ok (.iconst (-1), 1) := by decide +kernel
theorem d_md_number_83 : decode b_md_number 83 = .ok (.ireturn, 1) := by decide +kernel
theorem d_md_number_84 : decode b_md_number 84 = .ok (.iload 4, 2) := by decide +kernel
theorem d_md_number_86 : decode b_md_number 86 = .ok (.iload_n 1, 1) := by decide +kernel
theorem d_md_number_87 : decode b_md_number 87 = .ok (.if_icmp .ge 10, 3) := by decide +kernel
theorem d_md_number_90 : decode b_md_number 90 = .ok (.aload_n 0, 1) := by decide +kernel
theorem d_md_number_91 : decode b_md_number 91 = .ok (.iload_n 2, 1) := by decide +kernel
theorem d_md_number_92 : decode b_md_number 92 = .ok (.putfield 7, 3) := by decide +kernel
theorem d_md_number_95 : decode b_md_number 95 = .ok (.iconst (-1), 1) := by decide +kernel
theorem d_md_number_96 : decode b_md_number 96 = .ok (.ireturn, 1) := by decide +kernel
theorem d_md_number_97 : decode b_md_number 97 = .ok (.iload 4, 2) := by decide +kernel
theorem d_md_number_99 : decode b_md_number 99 = .ok (.ireturn, 1) := by decide +kernel
theorem d_md_word_0 : decode b_md_word 0 = .ok (.aload_n 0, 1) := by decide +kernel
theorem d_md_word_1 : decode b_md_word 1 = .ok (.getfield 117, 3) := by decide +kernel
theorem d_md_word_4 : decode b_md_word 4 = .ok (.iload_n 1, 1) := by decide +kernel
theorem d_md_word_5 : decode b_md_word 5 = .ok (.isub, 1) := by decide +kernel
theorem d_md_word_6 : decode b_md_word 6 = .ok (.istore_n 2, 1) := by decide +kernel
theorem d_md_word_7 : decode b_md_word 7 = .ok (.lconst 0, 1) := by decide +kernel
theorem d_md_word_8 : decode b_md_word 8 = .ok (.lstore_n 3, 1) := by decide +kernel
theorem d_md_word_9 : decode b_md_word 9 = .ok (.iload_n 1, 1) := by decide +kernel
theorem d_md_word_10 : decode b_md_word 10 = .ok (.istore 5, 2) := by decide +kernel
theorem d_md_word_12 : decode b_md_word 12 = .ok (.iload 5, 2) := by decide +kernel
theorem d_md_word_14 : decode b_md_word 14 = .ok (.aload_n 0, 1) := by decide +kernel
theorem d_md_word_15 : decode b_md_word 15 = .ok (.getfield 117, 3) := by decide +kernel
theorem d_md_word_18 : decode b_md_word 18 = .ok (.if_icmp .ge 28, 3) := by decide +kernel
theorem d_md_word_21 : decode b_md_word 21 = .ok (.iload_n 2, 1) := by decide +kernel
theorem d_md_word_22 : decode b_md_word 22 = .ok (.iconst 5, 1) := by decide +kernel
theorem d_md_word_23 : decode b_md_word 23 = .ok (.if_icmp .ge 23, 3) := by decide +kernel
theorem d_md_word_26 : decode b_md_word 26 = .ok (.lload_n 3, 1) := by decide +kernel
theorem d_md_word_27 : decode b_md_word 27 = .ok (.bipush 8, 2) := by decide +kernel
theorem d_md_word_29 : decode b_md_word 29 = .ok (.lshl, 1) := by decide +kernel
theorem d_md_word_30 : decode b_md_word 30 = .ok (.aload_n 0, 1) := by decide +kernel
theorem d_md_word_31 : decode b_md_word 31 = .ok (.getfield 13, 3) := by decide +kernel
theorem d_md_word_34 : decode b_md_word 34 = .ok (.iload 5, 2) := by decide +kernel
theorem d_md_word_36 : decode b_md_word 36 = .ok (.iaload, 1) := by decide +kernel
theorem d_md_word_37 : decode b_md_word 37 = .ok (.i2l, 1) := by decide +kernel
theorem d_md_word_38 : decode b_md_word 38 = .ok (.lor, 1) := by decide +kernel
theorem d_md_word_39 : decode b_md_word 39 = .ok (.lstore_n 3, 1) := by decide +kernel
theorem d_md_word_40 : decode b_md_word 40 = .ok (.iinc 5 1, 3) := by decide +kernel
theorem d_md_word_43 : decode b_md_word 43 = .ok (.goto (-31), 3) := by decide +kernel
theorem d_md_word_46 : decode b_md_word 46 = .ok (.lload_n 3, 1) := by decide +kernel
theorem d_md_word_47 : decode b_md_word 47 = .ok (.ldc2_w 135, 3) := by decide +kernel
theorem d_md_word_50 : decode b_md_word 50 = .ok (.lcmp, 1) := by decide +kernel
theorem d_md_word_51 : decode b_md_word 51 = .ok (.ifCond .ne 5, 3) := by decide +kernel
theorem d_md_word_54 : decode b_md_word 54 = .ok (.iconst 0, 1) := by decide +kernel
theorem d_md_word_55 : decode b_md_word 55 = .ok (.ireturn, 1) := by decide +kernel
theorem d_md_word_56 : decode b_md_word 56 = .ok (.lload_n 3, 1) := by decide +kernel
theorem d_md_word_57 : decode b_md_word 57 = .ok (.ldc2_w 137, 3) := by decide +kernel
theorem d_md_word_60 : decode b_md_word 60 = .ok (.lcmp, 1) := by decide +kernel
theorem d_md_word_61 : decode b_md_word 61 = .ok (.ifCond .ne 5, 3) := by decide +kernel
theorem d_md_word_64 : decode b_md_word 64 = .ok (.iconst 1, 1) := by decide +kernel
theorem d_md_word_65 : decode b_md_word 65 = .ok (.ireturn, 1) := by decide +kernel
theorem d_md_word_66 : decode b_md_word 66 = .ok (.lload_n 3, 1) := by decide +kernel
theorem d_md_word_67 : decode b_md_word 67 = .ok (.ldc2_w 139, 3) := by decide +kernel
theorem d_md_word_70 : decode b_md_word 70 = .ok (.lcmp, 1) := by decide +kernel
theorem d_md_word_71 : decode b_md_word 71 = .ok (.ifCond .ne 5, 3) := by decide +kernel
theorem d_md_word_74 : decode b_md_word 74 = .ok (.iconst 2, 1) := by decide +kernel
theorem d_md_word_75 : decode b_md_word 75 = .ok (.ireturn, 1) := by decide +kernel
theorem d_md_word_76 : decode b_md_word 76 = .ok (.lload_n 3, 1) := by decide +kernel
theorem d_md_word_77 : decode b_md_word 77 = .ok (.ldc2_w 141, 3) := by decide +kernel
theorem d_md_word_80 : decode b_md_word 80 = .ok (.lcmp, 1) := by decide +kernel
theorem d_md_word_81 : decode b_md_word 81 = .ok (.ifCond .ne 5, 3) := by decide +kernel
theorem d_md_word_84 : decode b_md_word 84 = .ok (.iconst 3, 1) := by decide +kernel
theorem d_md_word_85 : decode b_md_word 85 = .ok (.ireturn, 1) := by decide +kernel
theorem d_md_word_86 : decode b_md_word 86 = .ok (.lload_n 3, 1) := by decide +kernel
theorem d_md_word_87 : decode b_md_word 87 = .ok (.ldc2_w 143, 3) := by decide +kernel
theorem d_md_word_90 : decode b_md_word 90 = .ok (.lcmp, 1) := by decide +kernel
theorem d_md_word_91 : decode b_md_word 91 = .ok (.ifCond .ne 5, 3) := by decide +kernel
theorem d_md_word_94 : decode b_md_word 94 = .ok (.iconst 4, 1) := by decide +kernel
theorem d_md_word_95 : decode b_md_word 95 = .ok (.ireturn, 1) := by decide +kernel
theorem d_md_word_96 : decode b_md_word 96 = .ok (.lload_n 3, 1) := by decide +kernel
theorem d_md_word_97 : decode b_md_word 97 = .ok (.ldc2_w 145, 3) := by decide +kernel
theorem d_md_word_100 : decode b_md_word 100 = .ok (.lcmp, 1) := by decide +kernel
theorem d_md_word_101 : decode b_md_word 101 = .ok (.ifCond .ne 7, 3) := by decide +kernel
theorem d_md_word_104 : decode b_md_word 104 = .ok (.iconst 5, 1) := by decide +kernel
theorem d_md_word_105 : decode b_md_word 105 = .ok (.goto 4, 3) := by decide +kernel
theorem d_md_word_108 : decode b_md_word 108 = .ok (.iconst (-1), 1) := by decide +kernel
theorem d_md_word_109 : decode b_md_word 109 = .ok (.ireturn, 1) := by decide +kernel
theorem d_md_part_0 : decode b_md_part 0 = .ok (.aload_n 0, 1) := by decide +kernel
theorem d_md_part_1 : decode b_md_part 1 = .ok (.invokevirtual 128, 3) := by decide +kernel
theorem d_md_part_4 : decode b_md_part 4 = .ok (.aload_n 0, 1) := by decide +kernel
theorem d_md_part_5 : decode b_md_part 5 = .ok (.getfield 117, 3) := by decide +kernel
theorem d_md_part_8 : decode b_md_part 8 = .ok (.istore_n 1, 1) := by decide +kernel
theorem d_md_part_9 : decode b_md_part 9 = .ok (.aload_n 0, 1) := by decide +kernel
theorem d_md_part_10 : decode b_md_part 10 = .ok (.invokevirtual 120, 3) := by decide +kernel
theorem d_md_part_13 : decode b_md_part 13 = .ok (.i2l, 1) := by decide +kernel
theorem d_md_part_14 : decode b_md_part 14 = .ok (.ldc2_w 147, 3) := by decide +kernel
theorem d_md_part_17 : decode b_md_part 17 = .ok (.ldc2_w 149, 3) := by decide +kernel
theorem d_md_part_20 : decode b_md_part 20 = .ok (.invokestatic 106, 3) := by decide +kernel
theorem d_md_part_23 : decode b_md_part 23 = .ok (.ifCond .eq 16, 3) := by decide +kernel
theorem d_md_part_26 : decode b_md_part 26 = .ok (.aload_n 0, 1) := by decide +kernel
theorem d_md_part_27 : decode b_md_part 27 = .ok (.dup, 1) := by decide +kernel
theorem d_md_part_28 : decode b_md_part 28 = .ok (.getfield 117, 3) := by decide +kernel
theorem d_md_part_31 : decode b_md_part 31 = .ok (.iconst 1, 1) := by decide +kernel
theorem d_md_part_32 : decode b_md_part 32 = .ok (.iadd, 1) := by decide +kernel
theorem d_md_part_33 : decode b_md_part 33 = .ok (.putfield 117, 3) := by decide +kernel
theorem d_md_part_36 : decode b_md_part 36 = .ok (.goto (-27), 3) := by decide +kernel
theorem d_md_part_39 : decode b_md_part 39 = .ok (.aload_n 0, 1) := by decide +kernel
theorem d_md_part_40 : decode b_md_part 40 = .ok (.iload_n 1, 1) := by decide +kernel
theorem d_md_part_41 : decode b_md_part 41 = .ok (.invokevirtual 151, 3) := by decide +kernel
theorem d_md_part_44 : decode b_md_part 44 = .ok (.istore_n 2, 1) := by decide +kernel
theorem d_md_part_45 : decode b_md_part 45 = .ok (.iload_n 2, 1) := by decide +kernel
theorem d_md_part_46 : decode b_md_part 46 = .ok (.ifCond .lt 24, 3) := by decide +kernel
theorem d_md_part_49 : decode b_md_part 49 = .ok (.iload_n 2, 1) := by decide +kernel
theorem d_md_part_50 : decode b_md_part 50 = .ok (.iconst 4, 1) := by decide +kernel
theorem d_md_part_51 : decode b_md_part 51 = .ok (.if_icmp .eq 19, 3) := by decide +kernel
theorem d_md_part_54 : decode b_md_part 54 = .ok (.aload_n 0, 1) := by decide +kernel
theorem d_md_part_55 : decode b_md_part 55 = .ok (.getfield 154, 3) := by decide +kernel
theorem d_md_part_58 : decode b_md_part 58 = .ok (.iload_n 2, 1) := by decide +kernel
theorem d_md_part_59 : decode b_md_part 59 = .ok (.ishr, 1) := by decide +kernel
theorem d_md_part_60 : decode b_md_part 60 = .ok (.iconst 1, 1) := by decide +kernel
theorem d_md_part_61 : decode b_md_part 61 = .ok (.iand, 1) := by decide +kernel
theorem d_md_part_62 : decode b_md_part 62 = .ok (.iconst 1, 1) := by decide +kernel
theorem d_md_part_63 : decode b_md_part 63 = .ok (.if_icmp .ne 7, 3) := by decide +kernel
theorem d_md_part_66 : decode b_md_part 66 = .ok (.iconst 1, 1) := by decide +kernel
theorem d_md_part_67 : decode b_md_part 67 = .ok (.goto 4, 3) := by decide +kernel
theorem d_md_part_70 : decode b_md_part 70 = .ok (.iconst 0, 1) := by decide +kernel
theorem d_md_part_71 : decode b_md_part 71 = .ok (.istore_n 3, 1) := by decide +kernel
theorem d_md_part_72 : decode b_md_part 72 = .ok (.iload_n 2, 1) := by decide +kernel
theorem d_md_part_73 : decode b_md_part 73 = .ok (.ifCond .lt 56, 3) := by decide +kernel
theorem d_md_part_76 : decode b_md_part 76 = .ok (.iload_n 3, 1) := by decide +kernel
theorem d_md_part_77 : decode b_md_part 77 = .ok (.ifCond .ne 52, 3) := by decide +kernel
theorem d_md_part_80 : decode b_md_part 80 = .ok (.iload_n 2, 1) := by decide +kernel
theorem d_md_part_81 : decode b_md_part 81 = .ok (.iconst 3, 1) := by decide +kernel
theorem d_md_part_82 : decode b_md_part 82 = .ok (.if_icmp .ne 15, 3) := by decide +kernel
theorem d_md_part_85 : decode b_md_part 85 = .ok (.aload_n 0, 1) := by decide +kernel
theorem d_md_part_86 : decode b_md_part 86 = .ok (.getfield 154, 3) := by decide +kernel
theorem d_md_part_89 : decode b_md_part 89 = .ok (.iconst 4, 1) := by decide +kernel
theorem d_md_part_90 : decode b_md_part 90 = .ok (.ishr, 1) := by decide +kernel
theorem d_md_part_91 : decode b_md_part 91 = .ok (.iconst 1, 1) := by decide +kernel
theorem d_md_part_92 : decode b_md_part 92 = .ok (.iand, 1) := by decide +kernel
theorem d_md_part_93 : decode b_md_part 93 = .ok (.iconst 1, 1) := by decide +kernel
theorem d_md_part_94 : decode b_md_part 94 = .ok (.if_icmp .eq 35, 3) := by decide +kernel
theorem d_md_part_97 : decode b_md_part 97 = .ok (.iload_n 2, 1) := by decide +kernel
theorem d_md_part_98 : decode b_md_part 98 = .ok (.iconst 4, 1) := by decide +kernel
theorem d_md_part_99 : decode b_md_part 99 = .ok (.if_icmp .ne 15, 3) := by decide +kernel
theorem d_md_part_102 : decode b_md_part 102 = .ok (.aload_n 0, 1) := by decide +kernel
theorem d_md_part_103 : decode b_md_part 103 = .ok (.getfield 154, 3) := by decide +kernel
theorem d_md_part_106 : decode b_md_part 106 = .ok (.iconst 3, 1) := by decide +kernel
theorem d_md_part_107 : decode b_md_part 107 = .ok (.ishr, 1) := by decide +kernel
theorem d_md_part_108 : decode b_md_part 108 = .ok (.iconst 1, 1) := by decide +kernel
theorem d_md_part_109 : decode b_md_part 109 = .ok (.iand, 1) := by decide +kernel
theorem d_md_part_110 : decode b_md_part 110 = .ok (.iconst 1, 1) := by decide +kernel
theorem d_md_part_111 : decode b_md_part 111 = .ok (.if_icmp .eq 18, 3) := by decide +kernel
theorem d_md_part_114 : decode b_md_part 114 = .ok (.iload_n 2, 1) := by decide +kernel
theorem d_md_part_115 : decode b_md_part 115 = .ok (.iconst 4, 1) := by decide +kernel
theorem d_md_part_116 : decode b_md_part 116 = .ok (.if_icmp .ne 20, 3) := by decide +kernel
theorem d_md_part_119 : decode b_md_part 119 = .ok (.aload_n 0, 1) := by decide +kernel
theorem d_md_part_120 : decode b_md_part 120 = .ok (.getfield 32, 3) := by decide +kernel
theorem d_md_part_123 : decode b_md_part 123 = .ok (.iconst 3, 1) := by decide +kernel
theorem d_md_part_124 : decode b_md_part 124 = .ok (.iaload, 1) := by decide +kernel
theorem d_md_part_125 : decode b_md_part 125 = .ok (.iconst 4, 1) := by decide +kernel
theorem d_md_part_126 : decode b_md_part 126 = .ok (.if_icmp .ne 10, 3) := by decide +kernel
theorem d_md_part_129 : decode b_md_part 129 = .ok (.aload_n 0, 1) := by decide +kernel
theorem d_md_part_130 : decode b_md_part 130 = .ok (.iload_n 1, 1) := by decide +kernel
theorem d_md_part_131 : decode b_md_part 131 = .ok (.putfield 7, 3) := by decide +kernel
theorem d_md_part_134 : decode b_md_part 134 = .ok (.iconst 0, 1) := by decide +kernel
theorem d_md_part_135 : decode b_md_part 135 = .ok (.ireturn, 1) := by decide +kernel
theorem d_md_part_136 : decode b_md_part 136 = .ok (.aload_n 0, 1) := by decide +kernel
theorem d_md_part_137 : decode b_md_part 137 = .ok (.dup, 1) := by decide +kernel
theorem d_md_part_138 : decode b_md_part 138 = .ok (.getfield 154, 3) := by decide +kernel
theorem d_md_part_141 : decode b_md_part 141 = .ok (.iconst 1, 1) := by decide +kernel
theorem d_md_part_142 : decode b_md_part 142 = .ok (.iload_n 2, 1) := by decide +kernel
theorem d_md_part_143 : decode b_md_part 143 = .ok (.ishl, 1) := by decide +kernel
theorem d_md_part_144 : decode b_md_part 144 = .ok (.ior, 1) := by decide +kernel
theorem d_md_part_145 : decode b_md_part 145 = .ok (.putfield 154, 3) := by decide +kernel
theorem d_md_part_148 : decode b_md_part 148 = .ok (.iload_n 2, 1) := by decide +kernel
theorem d_md_part_149 : decode b_md_part 149 = .ok (.iconst 4, 1) := by decide +kernel
theorem d_md_part_150 : decode b_md_part 150 = .ok (.if_icmp .ne 33, 3) := by decide +kernel
theorem d_md_part_153 : decode b_md_part 153 = .ok (.aload_n 0, 1) := by decide +kernel
theorem d_md_part_154 : decode b_md_part 154 = .ok (.getfield 32, 3) := by decide +kernel
theorem d_md_part_157 : decode b_md_part 157 = .ok (.iconst 3, 1) := by decide +kernel
theorem d_md_part_158 : decode b_md_part 158 = .ok (.iaload, 1) := by decide +kernel
theorem d_md_part_159 : decode b_md_part 159 = .ok (.ifCond .le 24, 3) := by decide +kernel
theorem d_md_part_162 : decode b_md_part 162 = .ok (.aload_n 0, 1) := by decide +kernel
theorem d_md_part_163 : decode b_md_part 163 = .ok (.getfield 38, 3) := by decide +kernel
theorem d_md_part_166 : decode b_md_part 166 = .ok (.bipush 12, 2) := by decide +kernel
theorem d_md_part_168 : decode b_md_part 168 = .ok (.aload_n 0, 1) := by decide +kernel
theorem d_md_part_169 : decode b_md_part 169 = .ok (.getfield 32, 3) := by decide +kernel
theorem d_md_part_172 : decode b_md_part 172 = .ok (.iconst 3, 1) := by decide +kernel
theorem d_md_part_173 : decode b_md_part 173 = .ok (.iaload, 1) := by decide +kernel
theorem d_md_part_174 : decode b_md_part 174 = .ok (.iadd, 1) := by decide +kernel
theorem d_md_part_175 : decode b_md_part 175 = .ok (.iconst 1, 1) := by decide +kernel
theorem d_md_part_176 : decode b_md_part 176 = .ok (.isub, 1) := by decide +kernel
theorem d_md_part_177 : decode b_md_part 177 = .ok (.iaload, 1) := by decide +kernel
theorem d_md_part_178 : decode b_md_part 178 = .ok (.iconst 1, 1) := by decide +kernel
theorem d_md_part_179 : decode b_md_part 179 = .ok (.iadd, 1) := by decide +kernel
theorem d_md_part_180 : decode b_md_part 180 = .ok (.goto 4, 3) := by decide +kernel
theorem d_md_part_183 : decode b_md_part 183 = .ok (.iconst 1, 1) := by decide +kernel
theorem d_md_part_184 : decode b_md_part 184 = .ok (.istore 4, 2) := by decide +kernel
theorem d_md_part_186 : decode b_md_part 186 = .ok (.aload_n 0, 1) := by decide +kernel
theorem d_md_part_187 : decode b_md_part 187 = .ok (.iload_n 2, 1) := by decide +kernel
theorem d_md_part_188 : decode b_md_part 188 = .ok (.iconst 3, 1) := by decide +kernel
theorem d_md_part_189 : decode b_md_part 189 = .ok (.if_icmp .ne 7, 3) := by decide +kernel
theorem d_md_part_192 : decode b_md_part 192 = .ok (.iconst 1, 1) := by decide +kernel
theorem d_md_part_193 : decode b_md_part 193 = .ok (.goto 14, 3) := by decide +kernel
theorem d_md_part_196 : decode b_md_part 196 = .ok (.iload_n 2, 1) := by decide +kernel
theorem d_md_part_197 : decode b_md_part 197 = .ok (.iconst 4, 1) := by decide +kernel
theorem d_md_part_198 : decode b_md_part 198 = .ok (.if_icmp .ne 8, 3) := by decide +kernel
theorem d_md_part_201 : decode b_md_part 201 = .ok (.iload 4, 2) := by decide +kernel
theorem d_md_part_203 : decode b_md_part 203 = .ok (.goto 4, 3) := by decide +kernel
theorem d_md_part_206 : decode b_md_part 206 = .ok (.iconst 0, 1) := by decide +kernel
theorem d_md_part_207 : decode b_md_part 207 = .ok (.invokevirtual 157, 3) := by decide +kernel
theorem d_md_part_210 : decode b_md_part 210 = .ok (.istore 5, 2) := by decide +kernel
theorem d_md_part_212 : decode b_md_part 212 = .ok (.iload 5, 2) := by decide +kernel
theorem d_md_part_214 : decode b_md_part 214 = .ok (.ifCond .ge 5, 3) := by decide +kernel
theorem d_md_part_217 : decode b_md_part 217 = .ok (.iconst 0, 1) := by decide +kernel
theorem d_md_part_218 : decode b_md_part 218 = .ok (.ireturn, 1) := by decide +kernel
theorem d_md_part_219 : decode b_md_part 219 = .ok (.iload_n 2, 1) := by decide +kernel
theorem d_md_part_220 : decode b_md_part 220 = .ok (.iconst 3, 1) := by decide +kernel
theorem d_md_part_221 : decode b_md_part 221 = .ok (.if_icmp .eq 8, 3) := by decide +kernel
theorem d_md_part_224 : decode b_md_part 224 = .ok (.iload_n 2, 1) := by decide +kernel
theorem d_md_part_225 : decode b_md_part 225 = .ok (.iconst 4, 1) := by decide +kernel
theorem d_md_part_226 : decode b_md_part 226 = .ok (.if_icmp .ne 11, 3) := by decide +kernel
theorem d_md_part_229 : decode b_md_part 229 = .ok (.aload_n 0, 1) := by decide +kernel
theorem d_md_part_230 : decode b_md_part 230 = .ok (.iconst 0, 1) := by decide +kernel
theorem d_md_part_231 : decode b_md_part 231 = .ok (.invokevirtual 157, 3) := by decide +kernel
theorem d_md_part_234 : decode b_md_part 234 = .ok (.goto 4, 3) := by decide +kernel
theorem d_md_part_237 : decode b_md_part 237 = .ok (.iconst 0, 1) := by decide +kernel
theorem d_md_part_238 : decode b_md_part 238 = .ok (.istore 6, 2) := by decide +kernel
theorem d_md_part_240 : decode b_md_part 240 = .ok (.iload 6, 2) := by decide +kernel
theorem d_md_part_242 : decode b_md_part 242 = .ok (.ifCond .ge 5, 3) := by decide +kernel
theorem d_md_part_245 : decode b_md_part 245 = .ok (.iconst 0, 1) := by decide +kernel
theorem d_md_part_246 : decode b_md_part 246 = .ok (.ireturn, 1) := by decide +kernel
theorem d_md_part_247 : decode b_md_part 247 = .ok (.iload_n 2, 1) := by decide +kernel
theorem d_md_part_248 : decode b_md_part 248 = .ok (.tableswitch 133 0 4 #[36, 47, 58, 69, 88], 36) := by decide +kernel
theorem d_md_part_284 : decode b_md_part 284 = .ok (.aload_n 0, 1) := by decide +kernel
theorem d_md_part_285 : decode b_md_part 285 = .ok (.getfield 17, 3) := by decide +kernel
theorem d_md_part_288 : decode b_md_part 288 = .ok (.iconst 3, 1) := by decide +kernel
theorem d_md_part_289 : decode b_md_part 289 = .ok (.iload 5, 2) := by decide +kernel
theorem d_md_part_291 : decode b_md_part 291 = .ok (.iastore, 1) := by decide +kernel
theorem d_md_part_292 : decode b_md_part 292 = .ok (.goto 97, 3) := by decide +kernel
theorem d_md_part_295 : decode b_md_part 295 = .ok (.aload_n 0, 1) := by decide +kernel
theorem d_md_part_296 : decode b_md_part 296 = .ok (.getfield 20, 3) := by decide +kernel
theorem d_md_part_299 : decode b_md_part 299 = .ok (.iconst 3, 1) := by decide +kernel
theorem d_md_part_300 : decode b_md_part 300 = .ok (.iload 5, 2) := by decide +kernel
theorem d_md_part_302 : decode b_md_part 302 = .ok (.iastore, 1) := by decide +kernel
theorem d_md_part_303 : decode b_md_part 303 = .ok (.goto 86, 3) := by decide +kernel
theorem d_md_part_306 : decode b_md_part 306 = .ok (.aload_n 0, 1) := by decide +kernel
theorem d_md_part_307 : decode b_md_part 307 = .ok (.getfield 23, 3) := by decide +kernel
theorem d_md_part_310 : decode b_md_part 310 = .ok (.iconst 3, 1) := by decide +kernel
theorem d_md_part_311 : decode b_md_part 311 = .ok (.iload 5, 2) := by decide +kernel
theorem d_md_part_313 : decode b_md_part 313 = .ok (.iastore, 1) := by decide +kernel
theorem d_md_part_314 : decode b_md_part 314 = .ok (.goto 75, 3) := by decide +kernel
theorem d_md_part_317 : decode b_md_part 317 = .ok (.aload_n 0, 1) := by decide +kernel
theorem d_md_part_318 : decode b_md_part 318 = .ok (.getfield 26, 3) := by decide +kernel
theorem d_md_part_321 : decode b_md_part 321 = .ok (.iconst 3, 1) := by decide +kernel
theorem d_md_part_322 : decode b_md_part 322 = .ok (.iload 5, 2) := by decide +kernel
theorem d_md_part_324 : decode b_md_part 324 = .ok (.iastore, 1) := by decide +kernel
theorem d_md_part_325 : decode b_md_part 325 = .ok (.aload_n 0, 1) := by decide +kernel
theorem d_md_part_326 : decode b_md_part 326 = .ok (.getfield 29, 3) := by decide +kernel
theorem d_md_part_329 : decode b_md_part 329 = .ok (.iconst 3, 1) := by decide +kernel
theorem d_md_part_330 : decode b_md_part 330 = .ok (.iload 6, 2) := by decide +kernel
theorem d_md_part_332 : decode b_md_part 332 = .ok (.iastore, 1) := by decide +kernel
theorem d_md_part_333 : decode b_md_part 333 = .ok (.goto 56, 3) := by decide +kernel
theorem d_md_part_336 : decode b_md_part 336 = .ok (.aload_n 0, 1) := by decide +kernel
theorem d_md_part_337 : decode b_md_part 337 = .ok (.getfield 38, 3) := by decide +kernel
theorem d_md_part_340 : decode b_md_part 340 = .ok (.bipush 12, 2) := by decide +kernel
theorem d_md_part_342 : decode b_md_part 342 = .ok (.aload_n 0, 1) := by decide +kernel
theorem d_md_part_343 : decode b_md_part 343 = .ok (.getfield 32, 3) := by decide +kernel
theorem d_md_part_346 : decode b_md_part 346 = .ok (.iconst 3, 1) := by decide +kernel
theorem d_md_part_347 : decode b_md_part 347 = .ok (.iaload, 1) := by decide +kernel
theorem d_md_part_348 : decode b_md_part 348 = .ok (.iadd, 1) := by decide +kernel
theorem d_md_part_349 : decode b_md_part 349 = .ok (.iload 5, 2) := by decide +kernel
theorem d_md_part_351 : decode b_md_part 351 = .ok (.iastore, 1) := by decide +kernel
theorem d_md_part_352 : decode b_md_part 352 = .ok (.aload_n 0, 1) := by decide +kernel
theorem d_md_part_353 : decode b_md_part 353 = .ok (.getfield 41, 3) := by decide +kernel
theorem d_md_part_356 : decode b_md_part 356 = .ok (.bipush 12, 2) := by decide +kernel
theorem d_md_part_358 : decode b_md_part 358 = .ok (.aload_n 0, 1) := by decide +kernel
theorem d_md_part_359 : decode b_md_part 359 = .ok (.getfield 32, 3) := by decide +kernel
theorem d_md_part_362 : decode b_md_part 362 = .ok (.iconst 3, 1) := by decide +kernel
theorem d_md_part_363 : decode b_md_part 363 = .ok (.iaload, 1) := by decide +kernel
theorem d_md_part_364 : decode b_md_part 364 = .ok (.iadd, 1) := by decide +kernel
theorem d_md_part_365 : decode b_md_part 365 = .ok (.iload 6, 2) := by decide +kernel
theorem d_md_part_367 : decode b_md_part 367 = .ok (.iastore, 1) := by decide +kernel
theorem d_md_part_368 : decode b_md_part 368 = .ok (.aload_n 0, 1) := by decide +kernel
theorem d_md_part_369 : decode b_md_part 369 = .ok (.getfield 32, 3) := by decide +kernel
theorem d_md_part_372 : decode b_md_part 372 = .ok (.iconst 3, 1) := by decide +kernel
theorem d_md_part_373 : decode b_md_part 373 = .ok (.dup2, 1) := by decide +kernel
theorem d_md_part_374 : decode b_md_part 374 = .ok (.iaload, 1) := by decide +kernel
theorem d_md_part_375 : decode b_md_part 375 = .ok (.iconst 1, 1) := by decide +kernel
theorem d_md_part_376 : decode b_md_part 376 = .ok (.iadd, 1) := by decide +kernel
theorem d_md_part_377 : decode b_md_part 377 = .ok (.iastore, 1) := by decide +kernel
theorem d_md_part_378 : decode b_md_part 378 = .ok (.goto 11, 3) := by decide +kernel
theorem d_md_part_381 : decode b_md_part 381 = .ok (.aload_n 0, 1) := by decide +kernel
theorem d_md_part_382 : decode b_md_part 382 = .ok (.getfield 35, 3) := by decide +kernel
theorem d_md_part_385 : decode b_md_part 385 = .ok (.iconst 3, 1) := by decide +kernel
theorem d_md_part_386 : decode b_md_part 386 = .ok (.iload 5, 2) := by decide +kernel
theorem d_md_part_388 : decode b_md_part 388 = .ok (.iastore, 1) := by decide +kernel
theorem d_md_part_389 : decode b_md_part 389 = .ok (.aload_n 0, 1) := by decide +kernel
theorem d_md_part_390 : decode b_md_part 390 = .ok (.dup, 1) := by decide +kernel
theorem d_md_part_391 : decode b_md_part 391 = .ok (.getfield 160, 3) := by decide +kernel
theorem d_md_part_394 : decode b_md_part 394 = .ok (.iconst 1, 1) := by decide +kernel
theorem d_md_part_395 : decode b_md_part 395 = .ok (.iadd, 1) := by decide +kernel
theorem d_md_part_396 : decode b_md_part 396 = .ok (.putfield 160, 3) := by decide +kernel
theorem d_md_part_399 : decode b_md_part 399 = .ok (.aload_n 0, 1) := by decide +kernel
theorem d_md_part_400 : decode b_md_part 400 = .ok (.invokevirtual 128, 3) := by decide +kernel
theorem d_md_part_403 : decode b_md_part 403 = .ok (.iconst 1, 1) := by decide +kernel
theorem d_md_part_404 : decode b_md_part 404 = .ok (.ireturn, 1) := by decide +kernel
theorem d_md_read_0 : decode b_md_read 0 = .ok (.aload_n 0, 1) := by decide +kernel
theorem d_md_read_1 : decode b_md_read 1 = .ok (.iconst 0, 1) := by decide +kernel
theorem d_md_read_2 : decode b_md_read 2 = .ok (.putfield 117, 3) := by decide +kernel
theorem d_md_read_5 : decode b_md_read 5 = .ok (.aload_n 0, 1) := by decide +kernel
theorem d_md_read_6 : decode b_md_read 6 = .ok (.iconst 0, 1) := by decide +kernel
theorem d_md_read_7 : decode b_md_read 7 = .ok (.putfield 154, 3) := by decide +kernel
theorem d_md_read_10 : decode b_md_read 10 = .ok (.aload_n 0, 1) := by decide +kernel
theorem d_md_read_11 : decode b_md_read 11 = .ok (.iconst 0, 1) := by decide +kernel
theorem d_md_read_12 : decode b_md_read 12 = .ok (.putfield 160, 3) := by decide +kernel
theorem d_md_read_15 : decode b_md_read 15 = .ok (.aload_n 0, 1) := by decide +kernel
theorem d_md_read_16 : decode b_md_read 16 = .ok (.getfield 17, 3) := by decide +kernel
theorem d_md_read_19 : decode b_md_read 19 = .ok (.iconst 3, 1) := by decide +kernel
theorem d_md_read_20 : decode b_md_read 20 = .ok (.iconst 0, 1) := by decide +kernel
theorem d_md_read_21 : decode b_md_read 21 = .ok (.iastore, 1) := by decide +kernel
theorem d_md_read_22 : decode b_md_read 22 = .ok (.aload_n 0, 1) := by decide +kernel
theorem d_md_read_23 : decode b_md_read 23 = .ok (.getfield 20, 3) := by decide +kernel
theorem d_md_read_26 : decode b_md_read 26 = .ok (.iconst 3, 1) := by decide +kernel
theorem d_md_read_27 : decode b_md_read 27 = .ok (.iconst 0, 1) := by decide +kernel
theorem d_md_read_28 : decode b_md_read 28 = .ok (.iastore, 1) := by decide +kernel
theorem d_md_read_29 : decode b_md_read 29 = .ok (.aload_n 0, 1) := by decide +kernel
theorem d_md_read_30 : decode b_md_read 30 = .ok (.getfield 23, 3) := by decide +kernel
theorem d_md_read_33 : decode b_md_read 33 = .ok (.iconst 3, 1) := by decide +kernel
theorem d_md_read_34 : decode b_md_read 34 = .ok (.iconst 0, 1) := by decide +kernel
theorem d_md_read_35 : decode b_md_read 35 = .ok (.iastore, 1) := by decide +kernel
theorem d_md_read_36 : decode b_md_read 36 = .ok (.aload_n 0, 1) := by decide +kernel
theorem d_md_read_37 : decode b_md_read 37 = .ok (.getfield 26, 3) := by decide +kernel
theorem d_md_read_40 : decode b_md_read 40 = .ok (.iconst 3, 1) := by decide +kernel
theorem d_md_read_41 : decode b_md_read 41 = .ok (.iconst 0, 1) := by decide +kernel
theorem d_md_read_42 : decode b_md_read 42 = .ok (.iastore, 1) := by decide +kernel
theorem d_md_read_43 : decode b_md_read 43 = .ok (.aload_n 0, 1) := by decide +kernel
theorem d_md_read_44 : decode b_md_read 44 = .ok (.getfield 32, 3) := by decide +kernel
theorem d_md_read_47 : decode b_md_read 47 = .ok (.iconst 3, 1) := by decide +kernel
theorem d_md_read_48 : decode b_md_read 48 = .ok (.iconst 0, 1) := by decide +kernel
theorem d_md_read_49 : decode b_md_read 49 = .ok (.iastore, 1) := by decide +kernel
theorem d_md_read_50 : decode b_md_read 50 = .ok (.aload_n 0, 1) := by decide +kernel
theorem d_md_read_51 : decode b_md_read 51 = .ok (.invokevirtual 163, 3) := by decide +kernel
theorem d_md_read_54 : decode b_md_read 54 = .ok (.ifCond .ne 5, 3) := by decide +kernel
theorem d_md_read_57 : decode b_md_read 57 = .ok (.iconst 0, 1) := by decide +kernel
theorem d_md_read_58 : decode b_md_read 58 = .ok (.ireturn, 1) := by decide +kernel
theorem d_md_read_59 : decode b_md_read 59 = .ok (.aload_n 0, 1) := by decide +kernel
theorem d_md_read_60 : decode b_md_read 60 = .ok (.getfield 154, 3) := by decide +kernel
theorem d_md_read_63 : decode b_md_read 63 = .ok (.iconst 5, 1) := by decide +kernel
theorem d_md_read_64 : decode b_md_read 64 = .ok (.ishr, 1) := by decide +kernel
theorem d_md_read_65 : decode b_md_read 65 = .ok (.iconst 1, 1) := by decide +kernel
theorem d_md_read_66 : decode b_md_read 66 = .ok (.iand, 1) := by decide +kernel
theorem d_md_read_67 : decode b_md_read 67 = .ok (.iconst 1, 1) := by decide +kernel
theorem d_md_read_68 : decode b_md_read 68 = .ok (.if_icmp .ne 7, 3) := by decide +kernel
theorem d_md_read_71 : decode b_md_read 71 = .ok (.iconst 1, 1) := by decide +kernel
theorem d_md_read_72 : decode b_md_read 72 = .ok (.goto 4, 3) := by decide +kernel
theorem d_md_read_75 : decode b_md_read 75 = .ok (.iconst 0, 1) := by decide +kernel
theorem d_md_read_76 : decode b_md_read 76 = .ok (.istore_n 1, 1) := by decide +kernel
theorem d_md_read_77 : decode b_md_read 77 = .ok (.iload_n 1, 1) := by decide +kernel
theorem d_md_read_78 : decode b_md_read 78 = .ok (.ifCond .eq 16, 3) := by decide +kernel
theorem d_md_read_81 : decode b_md_read 81 = .ok (.aload_n 0, 1) := by decide +kernel
theorem d_md_read_82 : decode b_md_read 82 = .ok (.getfield 117, 3) := by decide +kernel
theorem d_md_read_85 : decode b_md_read 85 = .ok (.aload_n 0, 1) := by decide +kernel
theorem d_md_read_86 : decode b_md_read 86 = .ok (.getfield 114, 3) := by decide +kernel
theorem d_md_read_89 : decode b_md_read 89 = .ok (.if_icmp .ne 5, 3) := by decide +kernel
theorem d_md_read_92 : decode b_md_read 92 = .ok (.iconst 1, 1) := by decide +kernel
theorem d_md_read_93 : decode b_md_read 93 = .ok (.ireturn, 1) := by decide +kernel
theorem d_md_read_94 : decode b_md_read 94 = .ok (.iload_n 1, 1) := by decide +kernel
theorem d_md_read_95 : decode b_md_read 95 = .ok (.ifCond .ne 12, 3) := by decide +kernel
theorem d_md_read_98 : decode b_md_read 98 = .ok (.aload_n 0, 1) := by decide +kernel
theorem d_md_read_99 : decode b_md_read 99 = .ok (.invokevirtual 120, 3) := by decide +kernel
theorem d_md_read_102 : decode b_md_read 102 = .ok (.bipush 59, 2) := by decide +kernel
theorem d_md_read_104 : decode b_md_read 104 = .ok (.if_icmp .eq 13, 3) := by decide +kernel
theorem d_md_read_107 : decode b_md_read 107 = .ok (.aload_n 0, 1) := by decide +kernel
theorem d_md_read_108 : decode b_md_read 108 = .ok (.aload_n 0, 1) := by decide +kernel
theorem d_md_read_109 : decode b_md_read 109 = .ok (.getfield 117, 3) := by decide +kernel
theorem d_md_read_112 : decode b_md_read 112 = .ok (.putfield 7, 3) := by decide +kernel
theorem d_md_read_115 : decode b_md_read 115 = .ok (.iconst 0, 1) := by decide +kernel
theorem d_md_read_116 : decode b_md_read 116 = .ok (.ireturn, 1) := by decide +kernel
theorem d_md_read_117 : decode b_md_read 117 = .ok (.aload_n 0, 1) := by decide +kernel
theorem d_md_read_118 : decode b_md_read 118 = .ok (.dup, 1) := by decide +kernel
theorem d_md_read_119 : decode b_md_read 119 = .ok (.getfield 117, 3) := by decide +kernel
theorem d_md_read_122 : decode b_md_read 122 = .ok (.iconst 1, 1) := by decide +kernel
theorem d_md_read_123 : decode b_md_read 123 = .ok (.iadd, 1) := by decide +kernel
theorem d_md_read_124 : decode b_md_read 124 = .ok (.putfield 117, 3) := by decide +kernel
theorem d_md_read_127 : decode b_md_read 127 = .ok (.goto (-77), 3) := by decide +kernel
theorem d_md_tariff_0 : decode b_md_tariff 0 = .ok (.aload_n 0, 1) := by decide +kernel
theorem d_md_tariff_1 : decode b_md_tariff 1 = .ok (.bipush (-2), 2) := by decide +kernel
theorem d_md_tariff_3 : decode b_md_tariff 3 = .ok (.putfield 7, 3) := by decide +kernel
theorem d_md_tariff_6 : decode b_md_tariff 6 = .ok (.iload_n 1, 1) := by decide +kernel
theorem d_md_tariff_7 : decode b_md_tariff 7 = .ok (.i2l, 1) := by decide +kernel
theorem d_md_tariff_8 : decode b_md_tariff 8 = .ok (.lconst 0, 1) := by decide +kernel
theorem d_md_tariff_9 : decode b_md_tariff 9 = .ok (.ldc2_w 167, 3) := by decide +kernel
theorem d_md_tariff_12 : decode b_md_tariff 12 = .ok (.invokestatic 106, 3) := by decide +kernel
theorem d_md_tariff_15 : decode b_md_tariff 15 = .ok (.ifCond .eq 10, 3) := by decide +kernel
theorem d_md_tariff_18 : decode b_md_tariff 18 = .ok (.aload_n 0, 1) := by decide +kernel
theorem d_md_tariff_19 : decode b_md_tariff 19 = .ok (.invokevirtual 169, 3) := by decide +kernel
theorem d_md_tariff_22 : decode b_md_tariff 22 = .ok (.ifCond .ne 9, 3) := by decide +kernel
theorem d_md_tariff_25 : decode b_md_tariff 25 = .ok (.aload_n 0, 1) := by decide +kernel
theorem d_md_tariff_26 : decode b_md_tariff 26 = .ok (.iconst 1, 1) := by decide +kernel
theorem d_md_tariff_27 : decode b_md_tariff 27 = .ok (.invokevirtual 110, 3) := by decide +kernel
theorem d_md_tariff_30 : decode b_md_tariff 30 = .ok (.ireturn, 1) := by decide +kernel
theorem d_md_tariff_31 : decode b_md_tariff 31 = .ok (.aload_n 0, 1) := by decide +kernel
theorem d_md_tariff_32 : decode b_md_tariff 32 = .ok (.iconst 0, 1) := by decide +kernel
theorem d_md_tariff_33 : decode b_md_tariff 33 = .ok (.putfield 99, 3) := by decide +kernel
theorem d_md_tariff_36 : decode b_md_tariff 36 = .ok (.aload_n 0, 1) := by decide +kernel
theorem d_md_tariff_37 : decode b_md_tariff 37 = .ok (.getfield 17, 3) := by decide +kernel
theorem d_md_tariff_40 : decode b_md_tariff 40 = .ok (.iload_n 1, 1) := by decide +kernel
theorem d_md_tariff_41 : decode b_md_tariff 41 = .ok (.aload_n 0, 1) := by decide +kernel
theorem d_md_tariff_42 : decode b_md_tariff 42 = .ok (.getfield 17, 3) := by decide +kernel
theorem d_md_tariff_45 : decode b_md_tariff 45 = .ok (.iconst 3, 1) := by decide +kernel
theorem d_md_tariff_46 : decode b_md_tariff 46 = .ok (.iaload, 1) := by decide +kernel
theorem d_md_tariff_47 : decode b_md_tariff 47 = .ok (.iastore, 1) := by decide +kernel
theorem d_md_tariff_48 : decode b_md_tariff 48 = .ok (.aload_n 0, 1) := by decide +kernel
theorem d_md_tariff_49 : decode b_md_tariff 49 = .ok (.getfield 20, 3) := by decide +kernel
theorem d_md_tariff_52 : decode b_md_tariff 52 = .ok (.iload_n 1, 1) := by decide +kernel
theorem d_md_tariff_53 : decode b_md_tariff 53 = .ok (.aload_n 0, 1) := by decide +kernel
theorem d_md_tariff_54 : decode b_md_tariff 54 = .ok (.getfield 20, 3) := by decide +kernel
theorem d_md_tariff_57 : decode b_md_tariff 57 = .ok (.iconst 3, 1) := by decide +kernel
theorem d_md_tariff_58 : decode b_md_tariff 58 = .ok (.iaload, 1) := by decide +kernel
theorem d_md_tariff_59 : decode b_md_tariff 59 = .ok (.iastore, 1) := by decide +kernel
theorem d_md_tariff_60 : decode b_md_tariff 60 = .ok (.aload_n 0, 1) := by decide +kernel
theorem d_md_tariff_61 : decode b_md_tariff 61 = .ok (.getfield 23, 3) := by decide +kernel
theorem d_md_tariff_64 : decode b_md_tariff 64 = .ok (.iload_n 1, 1) := by decide +kernel
theorem d_md_tariff_65 : decode b_md_tariff 65 = .ok (.aload_n 0, 1) := by decide +kernel
theorem d_md_tariff_66 : decode b_md_tariff 66 = .ok (.getfield 23, 3) := by decide +kernel
theorem d_md_tariff_69 : decode b_md_tariff 69 = .ok (.iconst 3, 1) := by decide +kernel
theorem d_md_tariff_70 : decode b_md_tariff 70 = .ok (.iaload, 1) := by decide +kernel
theorem d_md_tariff_71 : decode b_md_tariff 71 = .ok (.iastore, 1) := by decide +kernel
theorem d_md_tariff_72 : decode b_md_tariff 72 = .ok (.aload_n 0, 1) := by decide +kernel
theorem d_md_tariff_73 : decode b_md_tariff 73 = .ok (.getfield 26, 3) := by decide +kernel
theorem d_md_tariff_76 : decode b_md_tariff 76 = .ok (.iload_n 1, 1) := by decide +kernel
theorem d_md_tariff_77 : decode b_md_tariff 77 = .ok (.aload_n 0, 1) := by decide +kernel
theorem d_md_tariff_78 : decode b_md_tariff 78 = .ok (.getfield 26, 3) := by decide +kernel
theorem d_md_tariff_81 : decode b_md_tariff 81 = .ok (.iconst 3, 1) := by decide +kernel
theorem d_md_tariff_82 : decode b_md_tariff 82 = .ok (.iaload, 1) := by decide +kernel
theorem d_md_tariff_83 : decode b_md_tariff 83 = .ok (.iastore, 1) := by decide +kernel
theorem d_md_tariff_84 : decode b_md_tariff 84 = .ok (.aload_n 0, 1) := by decide +kernel
theorem d_md_tariff_85 : decode b_md_tariff 85 = .ok (.getfield 29, 3) := by decide +kernel
theorem d_md_tariff_88 : decode b_md_tariff 88 = .ok (.iload_n 1, 1) := by decide +kernel
theorem d_md_tariff_89 : decode b_md_tariff 89 = .ok (.aload_n 0, 1) := by decide +kernel
theorem d_md_tariff_90 : decode b_md_tariff 90 = .ok (.getfield 29, 3) := by decide +kernel
theorem d_md_tariff_93 : decode b_md_tariff 93 = .ok (.iconst 3, 1) := by decide +kernel
theorem d_md_tariff_94 : decode b_md_tariff 94 = .ok (.iaload, 1) := by decide +kernel
theorem d_md_tariff_95 : decode b_md_tariff 95 = .ok (.iastore, 1) := by decide +kernel
theorem d_md_tariff_96 : decode b_md_tariff 96 = .ok (.aload_n 0, 1) := by decide +kernel
theorem d_md_tariff_97 : decode b_md_tariff 97 = .ok (.getfield 32, 3) := by decide +kernel
theorem d_md_tariff_100 : decode b_md_tariff 100 = .ok (.iload_n 1, 1) := by decide +kernel
theorem d_md_tariff_101 : decode b_md_tariff 101 = .ok (.aload_n 0, 1) := by decide +kernel
theorem d_md_tariff_102 : decode b_md_tariff 102 = .ok (.getfield 32, 3) := by decide +kernel
theorem d_md_tariff_105 : decode b_md_tariff 105 = .ok (.iconst 3, 1) := by decide +kernel
theorem d_md_tariff_106 : decode b_md_tariff 106 = .ok (.iaload, 1) := by decide +kernel
theorem d_md_tariff_107 : decode b_md_tariff 107 = .ok (.iastore, 1) := by decide +kernel
theorem d_md_tariff_108 : decode b_md_tariff 108 = .ok (.aload_n 0, 1) := by decide +kernel
theorem d_md_tariff_109 : decode b_md_tariff 109 = .ok (.getfield 35, 3) := by decide +kernel
theorem d_md_tariff_112 : decode b_md_tariff 112 = .ok (.iload_n 1, 1) := by decide +kernel
theorem d_md_tariff_113 : decode b_md_tariff 113 = .ok (.aload_n 0, 1) := by decide +kernel
theorem d_md_tariff_114 : decode b_md_tariff 114 = .ok (.getfield 35, 3) := by decide +kernel
theorem d_md_tariff_117 : decode b_md_tariff 117 = .ok (.iconst 3, 1) := by decide +kernel
theorem d_md_tariff_118 : decode b_md_tariff 118 = .ok (.iaload, 1) := by decide +kernel
theorem d_md_tariff_119 : decode b_md_tariff 119 = .ok (.iastore, 1) := by decide +kernel
theorem d_md_tariff_120 : decode b_md_tariff 120 = .ok (.iconst 0, 1) := by decide +kernel
theorem d_md_tariff_121 : decode b_md_tariff 121 = .ok (.istore_n 2, 1) := by decide +kernel
theorem d_md_tariff_122 : decode b_md_tariff 122 = .ok (.iload_n 2, 1) := by decide +kernel
theorem d_md_tariff_123 : decode b_md_tariff 123 = .ok (.iconst 4, 1) := by decide +kernel
theorem d_md_tariff_124 : decode b_md_tariff 124 = .ok (.if_icmp .ge 47, 3) := by decide +kernel
theorem d_md_tariff_127 : decode b_md_tariff 127 = .ok (.aload_n 0, 1) := by decide +kernel
theorem d_md_tariff_128 : decode b_md_tariff 128 = .ok (.getfield 38, 3) := by decide +kernel
theorem d_md_tariff_131 : decode b_md_tariff 131 = .ok (.iconst 4, 1) := by decide +kernel
theorem d_md_tariff_132 : decode b_md_tariff 132 = .ok (.iload_n 1, 1) := by decide +kernel
theorem d_md_tariff_133 : decode b_md_tariff 133 = .ok (.imul, 1) := by decide +kernel
theorem d_md_tariff_134 : decode b_md_tariff 134 = .ok (.iload_n 2, 1) := by decide +kernel
theorem d_md_tariff_135 : decode b_md_tariff 135 = .ok (.iadd, 1) := by decide +kernel
theorem d_md_tariff_136 : decode b_md_tariff 136 = .ok (.aload_n 0, 1) := by decide +kernel
theorem d_md_tariff_137 : decode b_md_tariff 137 = .ok (.getfield 38, 3) := by decide +kernel
theorem d_md_tariff_140 : decode b_md_tariff 140 = .ok (.bipush 12, 2) := by decide +kernel
theorem d_md_tariff_142 : decode b_md_tariff 142 = .ok (.iload_n 2, 1) := by decide +kernel
theorem d_md_tariff_143 : decode b_md_tariff 143 = .ok (.iadd, 1) := by decide +kernel
theorem d_md_tariff_144 : decode b_md_tariff 144 = .ok (.iaload, 1) := by decide +kernel
theorem d_md_tariff_145 : decode b_md_tariff 145 = .ok (.iastore, 1) := by decide +kernel
theorem d_md_tariff_146 : decode b_md_tariff 146 = .ok (.aload_n 0, 1) := by decide +kernel
theorem d_md_tariff_147 : decode b_md_tariff 147 = .ok (.getfield 41, 3) := by decide +kernel
theorem d_md_tariff_150 : decode b_md_tariff 150 = .ok (.iconst 4, 1) := by decide +kernel
theorem d_md_tariff_151 : decode b_md_tariff 151 = .ok (.iload_n 1, 1) := by decide +kernel
theorem d_md_tariff_152 : decode b_md_tariff 152 = .ok (.imul, 1) := by decide +kernel
theorem d_md_tariff_153 : decode b_md_tariff 153 = .ok (.iload_n 2, 1) := by decide +kernel
theorem d_md_tariff_154 : decode b_md_tariff 154 = .ok (.iadd, 1) := by decide +kernel
theorem d_md_tariff_155 : decode b_md_tariff 155 = .ok (.aload_n 0, 1) := by decide +kernel
theorem d_md_tariff_156 : decode b_md_tariff 156 = .ok (.getfield 41, 3) := by decide +kernel
theorem d_md_tariff_159 : decode b_md_tariff 159 = .ok (.bipush 12, 2) := by decide +kernel
theorem d_md_tariff_161 : decode b_md_tariff 161 = .ok (.iload_n 2, 1) := by decide +kernel
theorem d_md_tariff_162 : decode b_md_tariff 162 = .ok (.iadd, 1) := by decide +kernel
theorem d_md_tariff_163 : decode b_md_tariff 163 = .ok (.iaload, 1) := by decide +kernel
theorem d_md_tariff_164 : decode b_md_tariff 164 = .ok (.iastore, 1) := by decide +kernel
theorem d_md_tariff_165 : decode b_md_tariff 165 = .ok (.iinc 2 1, 3) := by decide +kernel
theorem d_md_tariff_168 : decode b_md_tariff 168 = .ok (.goto (-46), 3) := by decide +kernel
theorem d_md_tariff_171 : decode b_md_tariff 171 = .ok (.aload_n 0, 1) := by decide +kernel
theorem d_md_tariff_172 : decode b_md_tariff 172 = .ok (.iconst 0, 1) := by decide +kernel
theorem d_md_tariff_173 : decode b_md_tariff 173 = .ok (.putfield 114, 3) := by decide +kernel
theorem d_md_tariff_176 : decode b_md_tariff 176 = .ok (.aload_n 0, 1) := by decide +kernel
theorem d_md_tariff_177 : decode b_md_tariff 177 = .ok (.getfield 160, 3) := by decide +kernel
theorem d_md_tariff_180 : decode b_md_tariff 180 = .ok (.ireturn, 1) := by decide +kernel
theorem d_md_where_0 : decode b_md_where 0 = .ok (.aload_n 0, 1) := by decide +kernel
theorem d_md_where_1 : decode b_md_where 1 = .ok (.iconst 0, 1) := by decide +kernel
theorem d_md_where_2 : decode b_md_where 2 = .ok (.putfield 99, 3) := by decide +kernel
theorem d_md_where_5 : decode b_md_where 5 = .ok (.aload_n 0, 1) := by decide +kernel
theorem d_md_where_6 : decode b_md_where 6 = .ok (.getfield 7, 3) := by decide +kernel
theorem d_md_where_9 : decode b_md_where 9 = .ok (.ireturn, 1) := by decide +kernel
theorem d_md_priced_0 : decode b_md_priced 0 = .ok (.lload_n 2, 1) := by decide +kernel
theorem d_md_priced_1 : decode b_md_priced 1 = .ok (.lload 4, 2) := by decide +kernel
theorem d_md_priced_3 : decode b_md_priced 3 = .ok (.lcmp, 1) := by decide +kernel
theorem d_md_priced_4 : decode b_md_priced 4 = .ok (.ifCond .le 10, 3) := by decide +kernel
theorem d_md_priced_7 : decode b_md_priced 7 = .ok (.lload_n 2, 1) := by decide +kernel
theorem d_md_priced_8 : decode b_md_priced 8 = .ok (.lload 4, 2) := by decide +kernel
theorem d_md_priced_10 : decode b_md_priced 10 = .ok (.lsub, 1) := by decide +kernel
theorem d_md_priced_11 : decode b_md_priced 11 = .ok (.goto 4, 3) := by decide +kernel
theorem d_md_priced_14 : decode b_md_priced 14 = .ok (.lconst 0, 1) := by decide +kernel
theorem d_md_priced_15 : decode b_md_priced 15 = .ok (.lstore 8, 2) := by decide +kernel
theorem d_md_priced_17 : decode b_md_priced 17 = .ok (.lconst 0, 1) := by decide +kernel
theorem d_md_priced_18 : decode b_md_priced 18 = .ok (.lstore 10, 2) := by decide +kernel
theorem d_md_priced_20 : decode b_md_priced 20 = .ok (.lconst 0, 1) := by decide +kernel
theorem d_md_priced_21 : decode b_md_priced 21 = .ok (.lstore 12, 2) := by decide +kernel
theorem d_md_priced_23 : decode b_md_priced 23 = .ok (.aload_n 0, 1) := by decide +kernel
theorem d_md_priced_24 : decode b_md_priced 24 = .ok (.getfield 26, 3) := by decide +kernel
theorem d_md_priced_27 : decode b_md_priced 27 = .ok (.iload_n 1, 1) := by decide +kernel
theorem d_md_priced_28 : decode b_md_priced 28 = .ok (.iaload, 1) := by decide +kernel
theorem d_md_priced_29 : decode b_md_priced 29 = .ok (.ifCond .le 36, 3) := by decide +kernel
theorem d_md_priced_32 : decode b_md_priced 32 = .ok (.lload 8, 2) := by decide +kernel
theorem d_md_priced_34 : decode b_md_priced 34 = .ok (.aload_n 0, 1) := by decide +kernel
theorem d_md_priced_35 : decode b_md_priced 35 = .ok (.getfield 26, 3) := by decide +kernel
theorem d_md_priced_38 : decode b_md_priced 38 = .ok (.iload_n 1, 1) := by decide +kernel
theorem d_md_priced_39 : decode b_md_priced 39 = .ok (.iaload, 1) := by decide +kernel
theorem d_md_priced_40 : decode b_md_priced 40 = .ok (.i2l, 1) := by decide +kernel
theorem d_md_priced_41 : decode b_md_priced 41 = .ok (.ladd, 1) := by decide +kernel
theorem d_md_priced_42 : decode b_md_priced 42 = .ok (.lconst 1, 1) := by decide +kernel
theorem d_md_priced_43 : decode b_md_priced 43 = .ok (.lsub, 1) := by decide +kernel
theorem d_md_priced_44 : decode b_md_priced 44 = .ok (.aload_n 0, 1) := by decide +kernel
theorem d_md_priced_45 : decode b_md_priced 45 = .ok (.getfield 26, 3) := by decide +kernel
theorem d_md_priced_48 : decode b_md_priced 48 = .ok (.iload_n 1, 1) := by decide +kernel
theorem d_md_priced_49 : decode b_md_priced 49 = .ok (.iaload, 1) := by decide +kernel
theorem d_md_priced_50 : decode b_md_priced 50 = .ok (.i2l, 1) := by decide +kernel
theorem d_md_priced_51 : decode b_md_priced 51 = .ok (.ldiv, 1) := by decide +kernel
theorem d_md_priced_52 : decode b_md_priced 52 = .ok (.aload_n 0, 1) := by decide +kernel
theorem d_md_priced_53 : decode b_md_priced 53 = .ok (.getfield 29, 3) := by decide +kernel
theorem d_md_priced_56 : decode b_md_priced 56 = .ok (.iload_n 1, 1) := by decide +kernel
theorem d_md_priced_57 : decode b_md_priced 57 = .ok (.iaload, 1) := by decide +kernel
theorem d_md_priced_58 : decode b_md_priced 58 = .ok (.i2l, 1) := by decide +kernel
theorem d_md_priced_59 : decode b_md_priced 59 = .ok (.lmul, 1) := by decide +kernel
theorem d_md_priced_60 : decode b_md_priced 60 = .ok (.lstore 10, 2) := by decide +kernel
theorem d_md_priced_62 : decode b_md_priced 62 = .ok (.goto 113, 3) := by decide +kernel
theorem d_md_priced_65 : decode b_md_priced 65 = .ok (.iconst 0, 1) := by decide +kernel
theorem d_md_priced_66 : decode b_md_priced 66 = .ok (.istore 14, 2) := by decide +kernel
theorem d_md_priced_68 : decode b_md_priced 68 = .ok (.iload 14, 2) := by decide +kernel
theorem d_md_priced_70 : decode b_md_priced 70 = .ok (.aload_n 0, 1) := by decide +kernel
theorem d_md_priced_71 : decode b_md_priced 71 = .ok (.getfield 32, 3) := by decide +kernel
theorem d_md_priced_74 : decode b_md_priced 74 = .ok (.iload_n 1, 1) := by decide +kernel
theorem d_md_priced_75 : decode b_md_priced 75 = .ok (.iaload, 1) := by decide +kernel
theorem d_md_priced_76 : decode b_md_priced 76 = .ok (.if_icmp .ge 81, 3) := by decide +kernel
theorem d_md_priced_79 : decode b_md_priced 79 = .ok (.lload 8, 2) := by decide +kernel
theorem d_md_priced_81 : decode b_md_priced 81 = .ok (.aload_n 0, 1) := by decide +kernel
theorem d_md_priced_82 : decode b_md_priced 82 = .ok (.getfield 38, 3) := by decide +kernel
theorem d_md_priced_85 : decode b_md_priced 85 = .ok (.iconst 4, 1) := by decide +kernel
theorem d_md_priced_86 : decode b_md_priced 86 = .ok (.iload_n 1, 1) := by decide +kernel
theorem d_md_priced_87 : decode b_md_priced 87 = .ok (.imul, 1) := by decide +kernel
theorem d_md_priced_88 : decode b_md_priced 88 = .ok (.iload 14, 2) := by decide +kernel
theorem d_md_priced_90 : decode b_md_priced 90 = .ok (.iadd, 1) := by decide +kernel
theorem d_md_priced_91 : decode b_md_priced 91 = .ok (.iaload, 1) := by decide +kernel
theorem d_md_priced_92 : decode b_md_priced 92 = .ok (.i2l, 1) := by decide +kernel
theorem d_md_priced_93 : decode b_md_priced 93 = .ok (.lcmp, 1) := by decide +kernel
theorem d_md_priced_94 : decode b_md_priced 94 = .ok (.ifCond .ge 8, 3) := by decide +kernel
theorem d_md_priced_97 : decode b_md_priced 97 = .ok (.lload 8, 2) := by decide +kernel
theorem d_md_priced_99 : decode b_md_priced 99 = .ok (.goto 15, 3) := by decide +kernel
theorem d_md_priced_102 : decode b_md_priced 102 = .ok (.aload_n 0, 1) := by decide +kernel
theorem d_md_priced_103 : decode b_md_priced 103 = .ok (.getfield 38, 3) := by decide +kernel
theorem d_md_priced_106 : decode b_md_priced 106 = .ok (.iconst 4, 1) := by decide +kernel
theorem d_md_priced_107 : decode b_md_priced 107 = .ok (.iload_n 1, 1) := by decide +kernel
theorem d_md_priced_108 : decode b_md_priced 108 = .ok (.imul, 1) := by decide +kernel
theorem d_md_priced_109 : decode b_md_priced 109 = .ok (.iload 14, 2) := by decide +kernel
theorem d_md_priced_111 : decode b_md_priced 111 = .ok (.iadd, 1) := by decide +kernel
theorem d_md_priced_112 : decode b_md_priced 112 = .ok (.iaload, 1) := by decide +kernel
theorem d_md_priced_113 : decode b_md_priced 113 = .ok (.i2l, 1) := by decide +kernel
theorem d_md_priced_114 : decode b_md_priced 114 = .ok (.lstore 15, 2) := by decide +kernel
theorem d_md_priced_116 : decode b_md_priced 116 = .ok (.lload 15, 2) := by decide +kernel
theorem d_md_priced_118 : decode b_md_priced 118 = .ok (.lload 12, 2) := by decide +kernel
theorem d_md_priced_120 : decode b_md_priced 120 = .ok (.lcmp, 1) := by decide +kernel
theorem d_md_priced_121 : decode b_md_priced 121 = .ok (.ifCond .le 30, 3) := by decide +kernel
theorem d_md_priced_124 : decode b_md_priced 124 = .ok (.lload 10, 2) := by decide +kernel
theorem d_md_priced_126 : decode b_md_priced 126 = .ok (.lload 15, 2) := by decide +kernel
theorem d_md_priced_128 : decode b_md_priced 128 = .ok (.lload 12, 2) := by decide +kernel
theorem d_md_priced_130 : decode b_md_priced 130 = .ok (.lsub, 1) := by decide +kernel
theorem d_md_priced_131 : decode b_md_priced 131 = .ok (.aload_n 0, 1) := by decide +kernel
theorem d_md_priced_132 : decode b_md_priced 132 = .ok (.getfield 41, 3) := by decide +kernel
theorem d_md_priced_135 : decode b_md_priced 135 = .ok (.iconst 4, 1) := by decide +kernel
theorem d_md_priced_136 : decode b_md_priced 136 = .ok (.iload_n 1, 1) := by decide +kernel
theorem d_md_priced_137 : decode b_md_priced 137 = .ok (.imul, 1) := by decide +kernel
theorem d_md_priced_138 : decode b_md_priced 138 = .ok (.iload 14, 2) := by decide +kernel
theorem d_md_priced_140 : decode b_md_priced 140 = .ok (.iadd, 1) := by decide +kernel
theorem d_md_priced_141 : decode b_md_priced 141 = .ok (.iaload, 1) := by decide +kernel
theorem d_md_priced_142 : decode b_md_priced 142 = .ok (.i2l, 1) := by decide +kernel
theorem d_md_priced_143 : decode b_md_priced 143 = .ok (.lmul, 1) := by decide +kernel
theorem d_md_priced_144 : decode b_md_priced 144 = .ok (.ladd, 1) := by decide +kernel
theorem d_md_priced_145 : decode b_md_priced 145 = .ok (.lstore 10, 2) := by decide +kernel
theorem d_md_priced_147 : decode b_md_priced 147 = .ok (.lload 15, 2) := by decide +kernel
theorem d_md_priced_149 : decode b_md_priced 149 = .ok (.lstore 12, 2) := by decide +kernel
theorem d_md_priced_151 : decode b_md_priced 151 = .ok (.iinc 14 1, 3) := by decide +kernel
theorem d_md_priced_154 : decode b_md_priced 154 = .ok (.goto (-86), 3) := by decide +kernel
theorem d_md_priced_157 : decode b_md_priced 157 = .ok (.lload 10, 2) := by decide +kernel
theorem d_md_priced_159 : decode b_md_priced 159 = .ok (.lload 8, 2) := by decide +kernel
theorem d_md_priced_161 : decode b_md_priced 161 = .ok (.lload 12, 2) := by decide +kernel
theorem d_md_priced_163 : decode b_md_priced 163 = .ok (.lsub, 1) := by decide +kernel
theorem d_md_priced_164 : decode b_md_priced 164 = .ok (.aload_n 0, 1) := by decide +kernel
theorem d_md_priced_165 : decode b_md_priced 165 = .ok (.getfield 35, 3) := by decide +kernel
theorem d_md_priced_168 : decode b_md_priced 168 = .ok (.iload_n 1, 1) := by decide +kernel
theorem d_md_priced_169 : decode b_md_priced 169 = .ok (.iaload, 1) := by decide +kernel
theorem d_md_priced_170 : decode b_md_priced 170 = .ok (.i2l, 1) := by decide +kernel
theorem d_md_priced_171 : decode b_md_priced 171 = .ok (.lmul, 1) := by decide +kernel
theorem d_md_priced_172 : decode b_md_priced 172 = .ok (.ladd, 1) := by decide +kernel
theorem d_md_priced_173 : decode b_md_priced 173 = .ok (.lstore 10, 2) := by decide +kernel
theorem d_md_priced_175 : decode b_md_priced 175 = .ok (.lload 10, 2) := by decide +kernel
theorem d_md_priced_177 : decode b_md_priced 177 = .ok (.lload 6, 2) := by decide +kernel
theorem d_md_priced_179 : decode b_md_priced 179 = .ok (.lcmp, 1) := by decide +kernel
theorem d_md_priced_180 : decode b_md_priced 180 = .ok (.ifCond .ge 8, 3) := by decide +kernel
theorem d_md_priced_183 : decode b_md_priced 183 = .ok (.lload 6, 2) := by decide +kernel
theorem d_md_priced_185 : decode b_md_priced 185 = .ok (.goto 5, 3) := by decide +kernel
theorem d_md_priced_188 : decode b_md_priced 188 = .ok (.lload 10, 2) := by decide +kernel
theorem d_md_priced_190 : decode b_md_priced 190 = .ok (.lreturn, 1) := by decide +kernel
theorem d_md_use_0 : decode b_md_use 0 = .ok (.iload_n 1, 1) := by decide +kernel
theorem d_md_use_1 : decode b_md_use 1 = .ok (.i2l, 1) := by decide +kernel
theorem d_md_use_2 : decode b_md_use 2 = .ok (.lconst 0, 1) := by decide +kernel
theorem d_md_use_3 : decode b_md_use 3 = .ok (.ldc2_w 167, 3) := by decide +kernel
theorem d_md_use_6 : decode b_md_use 6 = .ok (.invokestatic 106, 3) := by decide +kernel
theorem d_md_use_9 : decode b_md_use 9 = .ok (.ifCond .eq 15, 3) := by decide +kernel
theorem d_md_use_12 : decode b_md_use 12 = .ok (.iload_n 2, 1) := by decide +kernel
theorem d_md_use_13 : decode b_md_use 13 = .ok (.i2l, 1) := by decide +kernel
theorem d_md_use_14 : decode b_md_use 14 = .ok (.lconst 0, 1) := by decide +kernel
theorem d_md_use_15 : decode b_md_use 15 = .ok (.ldc2_w 172, 3) := by decide +kernel
theorem d_md_use_18 : decode b_md_use 18 = .ok (.invokestatic 106, 3) := by decide +kernel
theorem d_md_use_21 : decode b_md_use 21 = .ok (.ifCond .ne 10, 3) := by decide +kernel
theorem d_md_use_24 : decode b_md_use 24 = .ok (.aload_n 0, 1) := by decide +kernel
theorem d_md_use_25 : decode b_md_use 25 = .ok (.iconst 1, 1) := by decide +kernel
theorem d_md_use_26 : decode b_md_use 26 = .ok (.invokevirtual 110, 3) := by decide +kernel
theorem d_md_use_29 : decode b_md_use 29 = .ok (.i2l, 1) := by decide +kernel
theorem d_md_use_30 : decode b_md_use 30 = .ok (.lreturn, 1) := by decide +kernel
theorem d_md_use_31 : decode b_md_use 31 = .ok (.aload_n 0, 1) := by decide +kernel
theorem d_md_use_32 : decode b_md_use 32 = .ok (.iconst 0, 1) := by decide +kernel
theorem d_md_use_33 : decode b_md_use 33 = .ok (.putfield 99, 3) := by decide +kernel
theorem d_md_use_36 : decode b_md_use 36 = .ok (.aload_n 0, 1) := by decide +kernel
theorem d_md_use_37 : decode b_md_use 37 = .ok (.iload_n 1, 1) := by decide +kernel
theorem d_md_use_38 : decode b_md_use 38 = .ok (.iload_n 2, 1) := by decide +kernel
theorem d_md_use_39 : decode b_md_use 39 = .ok (.i2l, 1) := by decide +kernel
theorem d_md_use_40 : decode b_md_use 40 = .ok (.aload_n 0, 1) := by decide +kernel
theorem d_md_use_41 : decode b_md_use 41 = .ok (.getfield 20, 3) := by decide +kernel
theorem d_md_use_44 : decode b_md_use 44 = .ok (.iload_n 1, 1) := by decide +kernel
theorem d_md_use_45 : decode b_md_use 45 = .ok (.iaload, 1) := by decide +kernel
theorem d_md_use_46 : decode b_md_use 46 = .ok (.i2l, 1) := by decide +kernel
theorem d_md_use_47 : decode b_md_use 47 = .ok (.aload_n 0, 1) := by decide +kernel
theorem d_md_use_48 : decode b_md_use 48 = .ok (.getfield 23, 3) := by decide +kernel
theorem d_md_use_51 : decode b_md_use 51 = .ok (.iload_n 1, 1) := by decide +kernel
theorem d_md_use_52 : decode b_md_use 52 = .ok (.iaload, 1) := by decide +kernel
theorem d_md_use_53 : decode b_md_use 53 = .ok (.i2l, 1) := by decide +kernel
theorem d_md_use_54 : decode b_md_use 54 = .ok (.invokevirtual 174, 3) := by decide +kernel
theorem d_md_use_57 : decode b_md_use 57 = .ok (.lreturn, 1) := by decide +kernel
theorem d_md_leaps_0 : decode b_md_leaps 0 = .ok (.iload_n 0, 1) := by decide +kernel
theorem d_md_leaps_1 : decode b_md_leaps 1 = .ok (.iconst 4, 1) := by decide +kernel
theorem d_md_leaps_2 : decode b_md_leaps 2 = .ok (.irem, 1) := by decide +kernel
theorem d_md_leaps_3 : decode b_md_leaps 3 = .ok (.ifCond .ne 22, 3) := by decide +kernel
theorem d_md_leaps_6 : decode b_md_leaps 6 = .ok (.iload_n 0, 1) := by decide +kernel
theorem d_md_leaps_7 : decode b_md_leaps 7 = .ok (.bipush 100, 2) := by decide +kernel
theorem d_md_leaps_9 : decode b_md_leaps 9 = .ok (.irem, 1) := by decide +kernel
theorem d_md_leaps_10 : decode b_md_leaps 10 = .ok (.ifCond .ne 11, 3) := by decide +kernel
theorem d_md_leaps_13 : decode b_md_leaps 13 = .ok (.iload_n 0, 1) := by decide +kernel
theorem d_md_leaps_14 : decode b_md_leaps 14 = .ok (.sipush 400, 3) := by decide +kernel
theorem d_md_leaps_17 : decode b_md_leaps 17 = .ok (.irem, 1) := by decide +kernel
theorem d_md_leaps_18 : decode b_md_leaps 18 = .ok (.ifCond .ne 7, 3) := by decide +kernel
theorem d_md_leaps_21 : decode b_md_leaps 21 = .ok (.iconst 1, 1) := by decide +kernel
theorem d_md_leaps_22 : decode b_md_leaps 22 = .ok (.goto 4, 3) := by decide +kernel
theorem d_md_leaps_25 : decode b_md_leaps 25 = .ok (.iconst 0, 1) := by decide +kernel
theorem d_md_leaps_26 : decode b_md_leaps 26 = .ok (.ireturn, 1) := by decide +kernel
theorem d_md_daysOf_0 : decode b_md_daysOf 0 = .ok (.iload_n 0, 1) := by decide +kernel
theorem d_md_daysOf_1 : decode b_md_daysOf 1 = .ok (.bipush 12, 2) := by decide +kernel
theorem d_md_daysOf_3 : decode b_md_daysOf 3 = .ok (.irem, 1) := by decide +kernel
theorem d_md_daysOf_4 : decode b_md_daysOf 4 = .ok (.istore_n 1, 1) := by decide +kernel
theorem d_md_daysOf_5 : decode b_md_daysOf 5 = .ok (.sipush 2000, 3) := by decide +kernel
theorem d_md_daysOf_8 : decode b_md_daysOf 8 = .ok (.iload_n 0, 1) := by decide +kernel
theorem d_md_daysOf_9 : decode b_md_daysOf 9 = .ok (.bipush 12, 2) := by decide +kernel
theorem d_md_daysOf_11 : decode b_md_daysOf 11 = .ok (.idiv, 1) := by decide +kernel
theorem d_md_daysOf_12 : decode b_md_daysOf 12 = .ok (.iadd, 1) := by decide +kernel
theorem d_md_daysOf_13 : decode b_md_daysOf 13 = .ok (.istore_n 2, 1) := by decide +kernel
theorem d_md_daysOf_14 : decode b_md_daysOf 14 = .ok (.iload_n 1, 1) := by decide +kernel
theorem d_md_daysOf_15 : decode b_md_daysOf 15 = .ok (.iconst 1, 1) := by decide +kernel
theorem d_md_daysOf_16 : decode b_md_daysOf 16 = .ok (.if_icmp .ne 18, 3) := by decide +kernel
theorem d_md_daysOf_19 : decode b_md_daysOf 19 = .ok (.iload_n 2, 1) := by decide +kernel
theorem d_md_daysOf_20 : decode b_md_daysOf 20 = .ok (.invokestatic 178, 3) := by decide +kernel
theorem d_md_daysOf_23 : decode b_md_daysOf 23 = .ok (.ifCond .eq 8, 3) := by decide +kernel
theorem d_md_daysOf_26 : decode b_md_daysOf 26 = .ok (.bipush 29, 2) := by decide +kernel
theorem d_md_daysOf_28 : decode b_md_daysOf 28 = .ok (.goto 5, 3) := by decide +kernel
theorem d_md_daysOf_31 : decode b_md_daysOf 31 = .ok (.bipush 28, 2) := by decide +kernel
theorem d_md_daysOf_33 : decode b_md_daysOf 33 = .ok (.ireturn, 1) := by decide +kernel
theorem d_md_daysOf_34 : decode b_md_daysOf 34 = .ok (.iload_n 1, 1) := by decide +kernel
theorem d_md_daysOf_35 : decode b_md_daysOf 35 = .ok (.iconst 3, 1) := by decide +kernel
theorem d_md_daysOf_36 : decode b_md_daysOf 36 = .ok (.if_icmp .eq 20, 3) := by decide +kernel
theorem d_md_daysOf_39 : decode b_md_daysOf 39 = .ok (.iload_n 1, 1) := by decide +kernel
theorem d_md_daysOf_40 : decode b_md_daysOf 40 = .ok (.iconst 5, 1) := by decide +kernel
theorem d_md_daysOf_41 : decode b_md_daysOf 41 = .ok (.if_icmp .eq 15, 3) := by decide +kernel
theorem d_md_daysOf_44 : decode b_md_daysOf 44 = .ok (.iload_n 1, 1) := by decide +kernel
theorem d_md_daysOf_45 : decode b_md_daysOf 45 = .ok (.bipush 8, 2) := by decide +kernel
theorem d_md_daysOf_47 : decode b_md_daysOf 47 = .ok (.if_icmp .eq 9, 3) := by decide +kernel
theorem d_md_daysOf_50 : decode b_md_daysOf 50 = .ok (.iload_n 1, 1) := by decide +kernel
theorem d_md_daysOf_51 : decode b_md_daysOf 51 = .ok (.bipush 10, 2) := by decide +kernel
theorem d_md_daysOf_53 : decode b_md_daysOf 53 = .ok (.if_icmp .ne 8, 3) := by decide +kernel
theorem d_md_daysOf_56 : decode b_md_daysOf 56 = .ok (.bipush 30, 2) := by decide +kernel
theorem d_md_daysOf_58 : decode b_md_daysOf 58 = .ok (.goto 5, 3) := by decide +kernel
theorem d_md_daysOf_61 : decode b_md_daysOf 61 = .ok (.bipush 31, 2) := by decide +kernel
theorem d_md_daysOf_63 : decode b_md_daysOf 63 = .ok (.ireturn, 1) := by decide +kernel
theorem d_md_firstOf_0 : decode b_md_firstOf 0 = .ok (.iconst 0, 1) := by decide +kernel
theorem d_md_firstOf_1 : decode b_md_firstOf 1 = .ok (.istore_n 1, 1) := by decide +kernel
theorem d_md_firstOf_2 : decode b_md_firstOf 2 = .ok (.iconst 0, 1) := by decide +kernel
theorem d_md_firstOf_3 : decode b_md_firstOf 3 = .ok (.istore_n 2, 1) := by decide +kernel
theorem d_md_firstOf_4 : decode b_md_firstOf 4 = .ok (.iload_n 2, 1) := by decide +kernel
theorem d_md_firstOf_5 : decode b_md_firstOf 5 = .ok (.iload_n 0, 1) := by decide +kernel
theorem d_md_firstOf_6 : decode b_md_firstOf 6 = .ok (.if_icmp .ge 16, 3) := by decide +kernel
theorem d_md_firstOf_9 : decode b_md_firstOf 9 = .ok (.iload_n 1, 1) := by decide +kernel
theorem d_md_firstOf_10 : decode b_md_firstOf 10 = .ok (.iload_n 2, 1) := by decide +kernel
theorem d_md_firstOf_11 : decode b_md_firstOf 11 = .ok (.invokestatic 181, 3) := by decide +kernel
theorem d_md_firstOf_14 : decode b_md_firstOf 14 = .ok (.iadd, 1) := by decide +kernel
theorem d_md_firstOf_15 : decode b_md_firstOf 15 = .ok (.istore_n 1, 1) := by decide +kernel
theorem d_md_firstOf_16 : decode b_md_firstOf 16 = .ok (.iinc 2 1, 3) := by decide +kernel
theorem d_md_firstOf_19 : decode b_md_firstOf 19 = .ok (.goto (-15), 3) := by decide +kernel
theorem d_md_firstOf_22 : decode b_md_firstOf 22 = .ok (.iload_n 1, 1) := by decide +kernel
theorem d_md_firstOf_23 : decode b_md_firstOf 23 = .ok (.ireturn, 1) := by decide +kernel
theorem d_md_date_0 : decode b_md_date 0 = .ok (.iload_n 1, 1) := by decide +kernel
theorem d_md_date_1 : decode b_md_date 1 = .ok (.i2l, 1) := by decide +kernel
theorem d_md_date_2 : decode b_md_date 2 = .ok (.lconst 0, 1) := by decide +kernel
theorem d_md_date_3 : decode b_md_date 3 = .ok (.ldc2_w 184, 3) := by decide +kernel
theorem d_md_date_6 : decode b_md_date 6 = .ok (.invokestatic 106, 3) := by decide +kernel
theorem d_md_date_9 : decode b_md_date 9 = .ok (.ifCond .eq 15, 3) := by decide +kernel
theorem d_md_date_12 : decode b_md_date 12 = .ok (.iload_n 2, 1) := by decide +kernel
theorem d_md_date_13 : decode b_md_date 13 = .ok (.i2l, 1) := by decide +kernel
theorem d_md_date_14 : decode b_md_date 14 = .ok (.lconst 0, 1) := by decide +kernel
theorem d_md_date_15 : decode b_md_date 15 = .ok (.ldc2_w 186, 3) := by decide +kernel
theorem d_md_date_18 : decode b_md_date 18 = .ok (.invokestatic 106, 3) := by decide +kernel
theorem d_md_date_21 : decode b_md_date 21 = .ok (.ifCond .ne 9, 3) := by decide +kernel
theorem d_md_date_24 : decode b_md_date 24 = .ok (.aload_n 0, 1) := by decide +kernel
theorem d_md_date_25 : decode b_md_date 25 = .ok (.iconst 1, 1) := by decide +kernel
theorem d_md_date_26 : decode b_md_date 26 = .ok (.invokevirtual 110, 3) := by decide +kernel
theorem d_md_date_29 : decode b_md_date 29 = .ok (.ireturn, 1) := by decide +kernel
theorem d_md_date_30 : decode b_md_date 30 = .ok (.aload_n 0, 1) := by decide +kernel
theorem d_md_date_31 : decode b_md_date 31 = .ok (.iconst 0, 1) := by decide +kernel
theorem d_md_date_32 : decode b_md_date 32 = .ok (.putfield 99, 3) := by decide +kernel
theorem d_md_date_35 : decode b_md_date 35 = .ok (.iconst 0, 1) := by decide +kernel
theorem d_md_date_36 : decode b_md_date 36 = .ok (.istore_n 3, 1) := by decide +kernel
theorem d_md_date_37 : decode b_md_date 37 = .ok (.iload_n 1, 1) := by decide +kernel
theorem d_md_date_38 : decode b_md_date 38 = .ok (.istore 4, 2) := by decide +kernel
theorem d_md_date_40 : decode b_md_date 40 = .ok (.iload 4, 2) := by decide +kernel
theorem d_md_date_42 : decode b_md_date 42 = .ok (.iload_n 3, 1) := by decide +kernel
theorem d_md_date_43 : decode b_md_date 43 = .ok (.invokestatic 181, 3) := by decide +kernel
theorem d_md_date_46 : decode b_md_date 46 = .ok (.if_icmp .lt 18, 3) := by decide +kernel
theorem d_md_date_49 : decode b_md_date 49 = .ok (.iload 4, 2) := by decide +kernel
theorem d_md_date_51 : decode b_md_date 51 = .ok (.iload_n 3, 1) := by decide +kernel
theorem d_md_date_52 : decode b_md_date 52 = .ok (.invokestatic 181, 3) := by decide +kernel
theorem d_md_date_55 : decode b_md_date 55 = .ok (.isub, 1) := by decide +kernel
theorem d_md_date_56 : decode b_md_date 56 = .ok (.istore 4, 2) := by decide +kernel
theorem d_md_date_58 : decode b_md_date 58 = .ok (.iinc 3 1, 3) := by decide +kernel
theorem d_md_date_61 : decode b_md_date 61 = .ok (.goto (-21), 3) := by decide +kernel
theorem d_md_date_64 : decode b_md_date 64 = .ok (.iload_n 2, 1) := by decide +kernel
theorem d_md_date_65 : decode b_md_date 65 = .ok (.ifCond .ne 14, 3) := by decide +kernel
theorem d_md_date_68 : decode b_md_date 68 = .ok (.sipush 2000, 3) := by decide +kernel
theorem d_md_date_71 : decode b_md_date 71 = .ok (.iload_n 3, 1) := by decide +kernel
theorem d_md_date_72 : decode b_md_date 72 = .ok (.bipush 12, 2) := by decide +kernel
theorem d_md_date_74 : decode b_md_date 74 = .ok (.idiv, 1) := by decide +kernel
theorem d_md_date_75 : decode b_md_date 75 = .ok (.iadd, 1) := by decide +kernel
theorem d_md_date_76 : decode b_md_date 76 = .ok (.goto 30, 3) := by decide +kernel
theorem d_md_date_79 : decode b_md_date 79 = .ok (.iload_n 2, 1) := by decide +kernel
theorem d_md_date_80 : decode b_md_date 80 = .ok (.iconst 1, 1) := by decide +kernel
theorem d_md_date_81 : decode b_md_date 81 = .ok (.if_icmp .ne 12, 3) := by decide +kernel
theorem d_md_date_84 : decode b_md_date 84 = .ok (.iload_n 3, 1) := by decide +kernel
theorem d_md_date_85 : decode b_md_date 85 = .ok (.bipush 12, 2) := by decide +kernel
theorem d_md_date_87 : decode b_md_date 87 = .ok (.irem, 1) := by decide +kernel
theorem d_md_date_88 : decode b_md_date 88 = .ok (.iconst 1, 1) := by decide +kernel
theorem d_md_date_89 : decode b_md_date 89 = .ok (.iadd, 1) := by decide +kernel
theorem d_md_date_90 : decode b_md_date 90 = .ok (.goto 16, 3) := by decide +kernel
theorem d_md_date_93 : decode b_md_date 93 = .ok (.iload_n 2, 1) := by decide +kernel
theorem d_md_date_94 : decode b_md_date 94 = .ok (.iconst 2, 1) := by decide +kernel
theorem d_md_date_95 : decode b_md_date 95 = .ok (.if_icmp .ne 10, 3) := by decide +kernel
theorem d_md_date_98 : decode b_md_date 98 = .ok (.iload 4, 2) := by decide +kernel
theorem d_md_date_100 : decode b_md_date 100 = .ok (.iconst 1, 1) := by decide +kernel
theorem d_md_date_101 : decode b_md_date 101 = .ok (.iadd, 1) := by decide +kernel
theorem d_md_date_102 : decode b_md_date 102 = .ok (.goto 4, 3) := by decide +kernel
theorem d_md_date_105 : decode b_md_date 105 = .ok (.iload_n 3, 1) := by decide +kernel
theorem d_md_date_106 : decode b_md_date 106 = .ok (.ireturn, 1) := by decide +kernel
theorem d_md_live_0 : decode b_md_live 0 = .ok (.iload_n 2, 1) := by decide +kernel
theorem d_md_live_1 : decode b_md_live 1 = .ok (.aload_n 0, 1) := by decide +kernel
theorem d_md_live_2 : decode b_md_live 2 = .ok (.getfield 188, 3) := by decide +kernel
theorem d_md_live_5 : decode b_md_live 5 = .ok (.if_icmp .ge 18, 3) := by decide +kernel
theorem d_md_live_8 : decode b_md_live 8 = .ok (.aload_n 0, 1) := by decide +kernel
theorem d_md_live_9 : decode b_md_live 9 = .ok (.getfield 57, 3) := by decide +kernel
theorem d_md_live_12 : decode b_md_live 12 = .ok (.sipush 401, 3) := by decide +kernel
theorem d_md_live_15 : decode b_md_live 15 = .ok (.iload_n 1, 1) := by decide +kernel
theorem d_md_live_16 : decode b_md_live 16 = .ok (.imul, 1) := by decide +kernel
theorem d_md_live_17 : decode b_md_live 17 = .ok (.iload_n 2, 1) := by decide +kernel
theorem d_md_live_18 : decode b_md_live 18 = .ok (.iadd, 1) := by decide +kernel
theorem d_md_live_19 : decode b_md_live 19 = .ok (.iaload, 1) := by decide +kernel
theorem d_md_live_20 : decode b_md_live 20 = .ok (.iconst 1, 1) := by decide +kernel
theorem d_md_live_21 : decode b_md_live 21 = .ok (.isub, 1) := by decide +kernel
theorem d_md_live_22 : decode b_md_live 22 = .ok (.ireturn, 1) := by decide +kernel
theorem d_md_live_23 : decode b_md_live 23 = .ok (.iload_n 2, 1) := by decide +kernel
theorem d_md_live_24 : decode b_md_live 24 = .ok (.aload_n 0, 1) := by decide +kernel
theorem d_md_live_25 : decode b_md_live 25 = .ok (.getfield 188, 3) := by decide +kernel
theorem d_md_live_28 : decode b_md_live 28 = .ok (.if_icmp .gt 13, 3) := by decide +kernel
theorem d_md_live_31 : decode b_md_live 31 = .ok (.aload_n 0, 1) := by decide +kernel
theorem d_md_live_32 : decode b_md_live 32 = .ok (.getfield 47, 3) := by decide +kernel
theorem d_md_live_35 : decode b_md_live 35 = .ok (.iload_n 1, 1) := by decide +kernel
theorem d_md_live_36 : decode b_md_live 36 = .ok (.iaload, 1) := by decide +kernel
theorem d_md_live_37 : decode b_md_live 37 = .ok (.iconst 1, 1) := by decide +kernel
theorem d_md_live_38 : decode b_md_live 38 = .ok (.if_icmp .ne 7, 3) := by decide +kernel
theorem d_md_live_41 : decode b_md_live 41 = .ok (.iconst (-1), 1) := by decide +kernel
theorem d_md_live_42 : decode b_md_live 42 = .ok (.goto 9, 3) := by decide +kernel
theorem d_md_live_45 : decode b_md_live 45 = .ok (.aload_n 0, 1) := by decide +kernel
theorem d_md_live_46 : decode b_md_live 46 = .ok (.getfield 44, 3) := by decide +kernel
theorem d_md_live_49 : decode b_md_live 49 = .ok (.iload_n 1, 1) := by decide +kernel
theorem d_md_live_50 : decode b_md_live 50 = .ok (.iaload, 1) := by decide +kernel
theorem d_md_live_51 : decode b_md_live 51 = .ok (.ireturn, 1) := by decide +kernel
theorem d_md_due_0 : decode b_md_due 0 = .ok (.iload_n 2, 1) := by decide +kernel
theorem d_md_due_1 : decode b_md_due 1 = .ok (.invokestatic 191, 3) := by decide +kernel
theorem d_md_due_4 : decode b_md_due 4 = .ok (.istore_n 3, 1) := by decide +kernel
theorem d_md_due_5 : decode b_md_due 5 = .ok (.iload_n 2, 1) := by decide +kernel
theorem d_md_due_6 : decode b_md_due 6 = .ok (.invokestatic 181, 3) := by decide +kernel
theorem d_md_due_9 : decode b_md_due 9 = .ok (.istore 4, 2) := by decide +kernel
theorem d_md_due_11 : decode b_md_due 11 = .ok (.lconst 0, 1) := by decide +kernel
theorem d_md_due_12 : decode b_md_due 12 = .ok (.lstore 5, 2) := by decide +kernel
theorem d_md_due_14 : decode b_md_due 14 = .ok (.iconst 0, 1) := by decide +kernel
theorem d_md_due_15 : decode b_md_due 15 = .ok (.istore 7, 2) := by decide +kernel
theorem d_md_due_17 : decode b_md_due 17 = .ok (.iload 7, 2) := by decide +kernel
theorem d_md_due_19 : decode b_md_due 19 = .ok (.iconst 3, 1) := by decide +kernel
theorem d_md_due_20 : decode b_md_due 20 = .ok (.if_icmp .ge 202, 3) := by decide +kernel
theorem d_md_due_23 : decode b_md_due 23 = .ok (.lconst 0, 1) := by decide +kernel
theorem d_md_due_24 : decode b_md_due 24 = .ok (.lstore 8, 2) := by decide +kernel
theorem d_md_due_26 : decode b_md_due 26 = .ok (.lconst 0, 1) := by decide +kernel
theorem d_md_due_27 : decode b_md_due 27 = .ok (.lstore 10, 2) := by decide +kernel
theorem d_md_due_29 : decode b_md_due 29 = .ok (.iload_n 3, 1) := by decide +kernel
theorem d_md_due_30 : decode b_md_due 30 = .ok (.istore 12, 2) := by decide +kernel
theorem d_md_due_32 : decode b_md_due 32 = .ok (.iload 12, 2) := by decide +kernel
theorem d_md_due_34 : decode b_md_due 34 = .ok (.iload_n 3, 1) := by decide +kernel
theorem d_md_due_35 : decode b_md_due 35 = .ok (.iload 4, 2) := by decide +kernel
theorem d_md_due_37 : decode b_md_due 37 = .ok (.iadd, 1) := by decide +kernel
theorem d_md_due_38 : decode b_md_due 38 = .ok (.if_icmp .ge 27, 3) := by decide +kernel
theorem d_md_due_41 : decode b_md_due 41 = .ok (.aload_n 0, 1) := by decide +kernel
theorem d_md_due_42 : decode b_md_due 42 = .ok (.iload_n 1, 1) := by decide +kernel
theorem d_md_due_43 : decode b_md_due 43 = .ok (.iload 12, 2) := by decide +kernel
theorem d_md_due_45 : decode b_md_due 45 = .ok (.invokevirtual 194, 3) := by decide +kernel
theorem d_md_due_48 : decode b_md_due 48 = .ok (.iload 7, 2) := by decide +kernel
theorem d_md_due_50 : decode b_md_due 50 = .ok (.if_icmp .ne 9, 3) := by decide +kernel
theorem d_md_due_53 : decode b_md_due 53 = .ok (.lload 8, 2) := by decide +kernel
theorem d_md_due_55 : decode b_md_due 55 = .ok (.lconst 1, 1) := by decide +kernel
theorem d_md_due_56 : decode b_md_due 56 = .ok (.ladd, 1) := by decide +kernel
theorem d_md_due_57 : decode b_md_due 57 = .ok (.lstore 8, 2) := by decide +kernel
theorem d_md_due_59 : decode b_md_due 59 = .ok (.iinc 12 1, 3) := by decide +kernel
theorem d_md_due_62 : decode b_md_due 62 = .ok (.goto (-30), 3) := by decide +kernel
theorem d_md_due_65 : decode b_md_due 65 = .ok (.lload 8, 2) := by decide +kernel
theorem d_md_due_67 : decode b_md_due 67 = .ok (.lconst 0, 1) := by decide +kernel
theorem d_md_due_68 : decode b_md_due 68 = .ok (.lcmp, 1) := by decide +kernel
theorem d_md_due_69 : decode b_md_due 69 = .ok (.ifCond .ne 6, 3) := by decide +kernel
theorem d_md_due_72 : decode b_md_due 72 = .ok (.goto 144, 3) := by decide +kernel
theorem d_md_due_75 : decode b_md_due 75 = .ok (.iconst 0, 1) := by decide +kernel
theorem d_md_due_76 : decode b_md_due 76 = .ok (.istore 12, 2) := by decide +kernel
theorem d_md_due_78 : decode b_md_due 78 = .ok (.iload 12, 2) := by decide +kernel
theorem d_md_due_80 : decode b_md_due 80 = .ok (.aload_n 0, 1) := by decide +kernel
theorem d_md_due_81 : decode b_md_due 81 = .ok (.getfield 198, 3) := by decide +kernel
theorem d_md_due_84 : decode b_md_due 84 = .ok (.if_icmp .ge 73, 3) := by decide +kernel
theorem d_md_due_87 : decode b_md_due 87 = .ok (.aload_n 0, 1) := by decide +kernel
theorem d_md_due_88 : decode b_md_due 88 = .ok (.getfield 63, 3) := by decide +kernel
theorem d_md_due_91 : decode b_md_due 91 = .ok (.iload 12, 2) := by decide +kernel
theorem d_md_due_93 : decode b_md_due 93 = .ok (.iaload, 1) := by decide +kernel
theorem d_md_due_94 : decode b_md_due 94 = .ok (.iload_n 1, 1) := by decide +kernel
theorem d_md_due_95 : decode b_md_due 95 = .ok (.if_icmp .ne 56, 3) := by decide +kernel
theorem d_md_due_98 : decode b_md_due 98 = .ok (.aload_n 0, 1) := by decide +kernel
theorem d_md_due_99 : decode b_md_due 99 = .ok (.getfield 66, 3) := by decide +kernel
theorem d_md_due_102 : decode b_md_due 102 = .ok (.iload 12, 2) := by decide +kernel
theorem d_md_due_104 : decode b_md_due 104 = .ok (.iaload, 1) := by decide +kernel
theorem d_md_due_105 : decode b_md_due 105 = .ok (.i2l, 1) := by decide +kernel
theorem d_md_due_106 : decode b_md_due 106 = .ok (.iload_n 3, 1) := by decide +kernel
theorem d_md_due_107 : decode b_md_due 107 = .ok (.i2l, 1) := by decide +kernel
theorem d_md_due_108 : decode b_md_due 108 = .ok (.iload_n 3, 1) := by decide +kernel
theorem d_md_due_109 : decode b_md_due 109 = .ok (.iload 4, 2) := by decide +kernel
theorem d_md_due_111 : decode b_md_due 111 = .ok (.iadd, 1) := by decide +kernel
theorem d_md_due_112 : decode b_md_due 112 = .ok (.iconst 1, 1) := by decide +kernel
theorem d_md_due_113 : decode b_md_due 113 = .ok (.isub, 1) := by decide +kernel
theorem d_md_due_114 : decode b_md_due 114 = .ok (.i2l, 1) := by decide +kernel
theorem d_md_due_115 : decode b_md_due 115 = .ok (.invokestatic 106, 3) := by decide +kernel
theorem d_md_due_118 : decode b_md_due 118 = .ok (.ifCond .eq 33, 3) := by decide +kernel
theorem d_md_due_121 : decode b_md_due 121 = .ok (.aload_n 0, 1) := by decide +kernel
theorem d_md_due_122 : decode b_md_due 122 = .ok (.iload_n 1, 1) := by decide +kernel
theorem d_md_due_123 : decode b_md_due 123 = .ok (.aload_n 0, 1) := by decide +kernel
theorem d_md_due_124 : decode b_md_due 124 = .ok (.getfield 66, 3) := by decide +kernel
theorem d_md_due_127 : decode b_md_due 127 = .ok (.iload 12, 2) := by decide +kernel
theorem d_md_due_129 : decode b_md_due 129 = .ok (.iaload, 1) := by decide +kernel
theorem d_md_due_130 : decode b_md_due 130 = .ok (.invokevirtual 194, 3) := by decide +kernel
theorem d_md_due_133 : decode b_md_due 133 = .ok (.iload 7, 2) := by decide +kernel
theorem d_md_due_135 : decode b_md_due 135 = .ok (.if_icmp .ne 16, 3) := by decide +kernel
theorem d_md_due_138 : decode b_md_due 138 = .ok (.lload 10, 2) := by decide +kernel
theorem d_md_due_140 : decode b_md_due 140 = .ok (.aload_n 0, 1) := by decide +kernel
theorem d_md_due_141 : decode b_md_due 141 = .ok (.getfield 69, 3) := by decide +kernel
theorem d_md_due_144 : decode b_md_due 144 = .ok (.iload 12, 2) := by decide +kernel
theorem d_md_due_146 : decode b_md_due 146 = .ok (.iaload, 1) := by decide +kernel
theorem d_md_due_147 : decode b_md_due 147 = .ok (.i2l, 1) := by decide +kernel
theorem d_md_due_148 : decode b_md_due 148 = .ok (.ladd, 1) := by decide +kernel
theorem d_md_due_149 : decode b_md_due 149 = .ok (.lstore 10, 2) := by decide +kernel
theorem d_md_due_151 : decode b_md_due 151 = .ok (.iinc 12 1, 3) := by decide +kernel
theorem d_md_due_154 : decode b_md_due 154 = .ok (.goto (-76), 3) := by decide +kernel
theorem d_md_due_157 : decode b_md_due 157 = .ok (.lload 5, 2) := by decide +kernel
theorem d_md_due_159 : decode b_md_due 159 = .ok (.aload_n 0, 1) := by decide +kernel
theorem d_md_due_160 : decode b_md_due 160 = .ok (.getfield 17, 3) := by decide +kernel
theorem d_md_due_163 : decode b_md_due 163 = .ok (.iload 7, 2) := by decide +kernel
theorem d_md_due_165 : decode b_md_due 165 = .ok (.iaload, 1) := by decide +kernel
theorem d_md_due_166 : decode b_md_due 166 = .ok (.i2l, 1) := by decide +kernel
theorem d_md_due_167 : decode b_md_due 167 = .ok (.lload 8, 2) := by decide +kernel
theorem d_md_due_169 : decode b_md_due 169 = .ok (.lmul, 1) := by decide +kernel
theorem d_md_due_170 : decode b_md_due 170 = .ok (.iload 4, 2) := by decide +kernel
theorem d_md_due_172 : decode b_md_due 172 = .ok (.i2l, 1) := by decide +kernel
theorem d_md_due_173 : decode b_md_due 173 = .ok (.ldiv, 1) := by decide +kernel
theorem d_md_due_174 : decode b_md_due 174 = .ok (.aload_n 0, 1) := by decide +kernel
theorem d_md_due_175 : decode b_md_due 175 = .ok (.iload 7, 2) := by decide +kernel
theorem d_md_due_177 : decode b_md_due 177 = .ok (.lload 10, 2) := by decide +kernel
theorem d_md_due_179 : decode b_md_due 179 = .ok (.aload_n 0, 1) := by decide +kernel
theorem d_md_due_180 : decode b_md_due 180 = .ok (.getfield 20, 3) := by decide +kernel
theorem d_md_due_183 : decode b_md_due 183 = .ok (.iload 7, 2) := by decide +kernel
theorem d_md_due_185 : decode b_md_due 185 = .ok (.iaload, 1) := by decide +kernel
theorem d_md_due_186 : decode b_md_due 186 = .ok (.i2l, 1) := by decide +kernel
theorem d_md_due_187 : decode b_md_due 187 = .ok (.lload 8, 2) := by decide +kernel
theorem d_md_due_189 : decode b_md_due 189 = .ok (.lmul, 1) := by decide +kernel
theorem d_md_due_190 : decode b_md_due 190 = .ok (.iload 4, 2) := by decide +kernel
theorem d_md_due_192 : decode b_md_due 192 = .ok (.i2l, 1) := by decide +kernel
theorem d_md_due_193 : decode b_md_due 193 = .ok (.ldiv, 1) := by decide +kernel
theorem d_md_due_194 : decode b_md_due 194 = .ok (.aload_n 0, 1) := by decide +kernel
theorem d_md_due_195 : decode b_md_due 195 = .ok (.getfield 23, 3) := by decide +kernel
theorem d_md_due_198 : decode b_md_due 198 = .ok (.iload 7, 2) := by decide +kernel
theorem d_md_due_200 : decode b_md_due 200 = .ok (.iaload, 1) := by decide +kernel
theorem d_md_due_201 : decode b_md_due 201 = .ok (.i2l, 1) := by decide +kernel
theorem d_md_due_202 : decode b_md_due 202 = .ok (.lload 8, 2) := by decide +kernel
theorem d_md_due_204 : decode b_md_due 204 = .ok (.lmul, 1) := by decide +kernel
theorem d_md_due_205 : decode b_md_due 205 = .ok (.iload 4, 2) := by decide +kernel
theorem d_md_due_207 : decode b_md_due 207 = .ok (.i2l, 1) := by decide +kernel
theorem d_md_due_208 : decode b_md_due 208 = .ok (.ldiv, 1) := by decide +kernel
theorem d_md_due_209 : decode b_md_due 209 = .ok (.invokevirtual 174, 3) := by decide +kernel
theorem d_md_due_212 : decode b_md_due 212 = .ok (.ladd, 1) := by decide +kernel
theorem d_md_due_213 : decode b_md_due 213 = .ok (.ladd, 1) := by decide +kernel
theorem d_md_due_214 : decode b_md_due 214 = .ok (.lstore 5, 2) := by decide +kernel
theorem d_md_due_216 : decode b_md_due 216 = .ok (.iinc 7 1, 3) := by decide +kernel
theorem d_md_due_219 : decode b_md_due 219 = .ok (.goto (-202), 3) := by decide +kernel
theorem d_md_due_222 : decode b_md_due 222 = .ok (.lload 5, 2) := by decide +kernel
theorem d_md_due_224 : decode b_md_due 224 = .ok (.lreturn, 1) := by decide +kernel
theorem d_md_charge_0 : decode b_md_charge 0 = .ok (.iload_n 1, 1) := by decide +kernel
theorem d_md_charge_1 : decode b_md_charge 1 = .ok (.i2l, 1) := by decide +kernel
theorem d_md_charge_2 : decode b_md_charge 2 = .ok (.lconst 0, 1) := by decide +kernel
theorem d_md_charge_3 : decode b_md_charge 3 = .ok (.ldc2_w 201, 3) := by decide +kernel
theorem d_md_charge_6 : decode b_md_charge 6 = .ok (.invokestatic 106, 3) := by decide +kernel
theorem d_md_charge_9 : decode b_md_charge 9 = .ok (.ifCond .eq 15, 3) := by decide +kernel
theorem d_md_charge_12 : decode b_md_charge 12 = .ok (.iload_n 2, 1) := by decide +kernel
theorem d_md_charge_13 : decode b_md_charge 13 = .ok (.i2l, 1) := by decide +kernel
theorem d_md_charge_14 : decode b_md_charge 14 = .ok (.lconst 0, 1) := by decide +kernel
theorem d_md_charge_15 : decode b_md_charge 15 = .ok (.ldc2_w 203, 3) := by decide +kernel
theorem d_md_charge_18 : decode b_md_charge 18 = .ok (.invokestatic 106, 3) := by decide +kernel
theorem d_md_charge_21 : decode b_md_charge 21 = .ok (.ifCond .ne 10, 3) := by decide +kernel
theorem d_md_charge_24 : decode b_md_charge 24 = .ok (.aload_n 0, 1) := by decide +kernel
theorem d_md_charge_25 : decode b_md_charge 25 = .ok (.iconst 1, 1) := by decide +kernel
theorem d_md_charge_26 : decode b_md_charge 26 = .ok (.invokevirtual 110, 3) := by decide +kernel
theorem d_md_charge_29 : decode b_md_charge 29 = .ok (.i2l, 1) := by decide +kernel
theorem d_md_charge_30 : decode b_md_charge 30 = .ok (.lreturn, 1) := by decide +kernel
theorem d_md_charge_31 : decode b_md_charge 31 = .ok (.aload_n 0, 1) := by decide +kernel
theorem d_md_charge_32 : decode b_md_charge 32 = .ok (.iconst 0, 1) := by decide +kernel
theorem d_md_charge_33 : decode b_md_charge 33 = .ok (.putfield 99, 3) := by decide +kernel
theorem d_md_charge_36 : decode b_md_charge 36 = .ok (.aload_n 0, 1) := by decide +kernel
theorem d_md_charge_37 : decode b_md_charge 37 = .ok (.iload_n 1, 1) := by decide +kernel
theorem d_md_charge_38 : decode b_md_charge 38 = .ok (.iload_n 2, 1) := by decide +kernel
theorem d_md_charge_39 : decode b_md_charge 39 = .ok (.invokevirtual 205, 3) := by decide +kernel
theorem d_md_charge_42 : decode b_md_charge 42 = .ok (.lreturn, 1) := by decide +kernel
theorem d_md_subscribe_0 : decode b_md_subscribe 0 = .ok (.iload_n 1, 1) := by decide +kernel
theorem d_md_subscribe_1 : decode b_md_subscribe 1 = .ok (.i2l, 1) := by decide +kernel
theorem d_md_subscribe_2 : decode b_md_subscribe 2 = .ok (.lconst 0, 1) := by decide +kernel
theorem d_md_subscribe_3 : decode b_md_subscribe 3 = .ok (.ldc2_w 201, 3) := by decide +kernel
theorem d_md_subscribe_6 : decode b_md_subscribe 6 = .ok (.invokestatic 106, 3) := by decide +kernel
theorem d_md_subscribe_9 : decode b_md_subscribe 9 = .ok (.ifCond .eq 17, 3) := by decide +kernel
theorem d_md_subscribe_12 : decode b_md_subscribe 12 = .ok (.iload_n 2, 1) := by decide +kernel
theorem d_md_subscribe_13 : decode b_md_subscribe 13 = .ok (.i2l, 1) := by decide +kernel
theorem d_md_subscribe_14 : decode b_md_subscribe 14 = .ok (.ldc2_w 209, 3) := by decide +kernel
theorem d_md_subscribe_17 : decode b_md_subscribe 17 = .ok (.ldc2_w 167, 3) := by decide +kernel
theorem d_md_subscribe_20 : decode b_md_subscribe 20 = .ok (.invokestatic 106, 3) := by decide +kernel
theorem d_md_subscribe_23 : decode b_md_subscribe 23 = .ok (.ifCond .ne 9, 3) := by decide +kernel
theorem d_md_subscribe_26 : decode b_md_subscribe 26 = .ok (.aload_n 0, 1) := by decide +kernel
theorem d_md_subscribe_27 : decode b_md_subscribe 27 = .ok (.iconst 1, 1) := by decide +kernel
theorem d_md_subscribe_28 : decode b_md_subscribe 28 = .ok (.invokevirtual 110, 3) := by decide +kernel
theorem d_md_subscribe_31 : decode b_md_subscribe 31 = .ok (.ireturn, 1) := by decide +kernel
theorem d_md_subscribe_32 : decode b_md_subscribe 32 = .ok (.aload_n 0, 1) := by decide +kernel
theorem d_md_subscribe_33 : decode b_md_subscribe 33 = .ok (.iconst 0, 1) := by decide +kernel
theorem d_md_subscribe_34 : decode b_md_subscribe 34 = .ok (.putfield 99, 3) := by decide +kernel
theorem d_md_subscribe_37 : decode b_md_subscribe 37 = .ok (.aload_n 0, 1) := by decide +kernel
theorem d_md_subscribe_38 : decode b_md_subscribe 38 = .ok (.getfield 44, 3) := by decide +kernel
theorem d_md_subscribe_41 : decode b_md_subscribe 41 = .ok (.iload_n 1, 1) := by decide +kernel
theorem d_md_subscribe_42 : decode b_md_subscribe 42 = .ok (.iaload, 1) := by decide +kernel
theorem d_md_subscribe_43 : decode b_md_subscribe 43 = .ok (.istore_n 3, 1) := by decide +kernel
theorem d_md_subscribe_44 : decode b_md_subscribe 44 = .ok (.aload_n 0, 1) := by decide +kernel
theorem d_md_subscribe_45 : decode b_md_subscribe 45 = .ok (.getfield 44, 3) := by decide +kernel
theorem d_md_subscribe_48 : decode b_md_subscribe 48 = .ok (.iload_n 1, 1) := by decide +kernel
theorem d_md_subscribe_49 : decode b_md_subscribe 49 = .ok (.iload_n 2, 1) := by decide +kernel
theorem d_md_subscribe_50 : decode b_md_subscribe 50 = .ok (.iastore, 1) := by decide +kernel
theorem d_md_subscribe_51 : decode b_md_subscribe 51 = .ok (.aload_n 0, 1) := by decide +kernel
theorem d_md_subscribe_52 : decode b_md_subscribe 52 = .ok (.getfield 47, 3) := by decide +kernel
theorem d_md_subscribe_55 : decode b_md_subscribe 55 = .ok (.iload_n 1, 1) := by decide +kernel
theorem d_md_subscribe_56 : decode b_md_subscribe 56 = .ok (.aload_n 0, 1) := by decide +kernel
theorem d_md_subscribe_57 : decode b_md_subscribe 57 = .ok (.getfield 50, 3) := by decide +kernel
theorem d_md_subscribe_60 : decode b_md_subscribe 60 = .ok (.iload_n 1, 1) := by decide +kernel
theorem d_md_subscribe_61 : decode b_md_subscribe 61 = .ok (.iaload, 1) := by decide +kernel
theorem d_md_subscribe_62 : decode b_md_subscribe 62 = .ok (.iconst 3, 1) := by decide +kernel
theorem d_md_subscribe_63 : decode b_md_subscribe 63 = .ok (.if_icmp .ne 7, 3) := by decide +kernel
theorem d_md_subscribe_66 : decode b_md_subscribe 66 = .ok (.iconst 1, 1) := by decide +kernel
theorem d_md_subscribe_67 : decode b_md_subscribe 67 = .ok (.goto 4, 3) := by decide +kernel
theorem d_md_subscribe_70 : decode b_md_subscribe 70 = .ok (.iconst 0, 1) := by decide +kernel
theorem d_md_subscribe_71 : decode b_md_subscribe 71 = .ok (.iastore, 1) := by decide +kernel
theorem d_md_subscribe_72 : decode b_md_subscribe 72 = .ok (.iload_n 3, 1) := by decide +kernel
theorem d_md_subscribe_73 : decode b_md_subscribe 73 = .ok (.ireturn, 1) := by decide +kernel
theorem d_md_pause_0 : decode b_md_pause 0 = .ok (.aload_n 0, 1) := by decide +kernel
theorem d_md_pause_1 : decode b_md_pause 1 = .ok (.iload_n 1, 1) := by decide +kernel
theorem d_md_pause_2 : decode b_md_pause 2 = .ok (.i2l, 1) := by decide +kernel
theorem d_md_pause_3 : decode b_md_pause 3 = .ok (.lconst 0, 1) := by decide +kernel
theorem d_md_pause_4 : decode b_md_pause 4 = .ok (.ldc2_w 201, 3) := by decide +kernel
theorem d_md_pause_7 : decode b_md_pause 7 = .ok (.invokestatic 106, 3) := by decide +kernel
theorem d_md_pause_10 : decode b_md_pause 10 = .ok (.ifCond .ne 7, 3) := by decide +kernel
theorem d_md_pause_13 : decode b_md_pause 13 = .ok (.iconst 1, 1) := by decide +kernel
theorem d_md_pause_14 : decode b_md_pause 14 = .ok (.goto 31, 3) := by decide +kernel
theorem d_md_pause_17 : decode b_md_pause 17 = .ok (.aload_n 0, 1) := by decide +kernel
theorem d_md_pause_18 : decode b_md_pause 18 = .ok (.getfield 44, 3) := by decide +kernel
theorem d_md_pause_21 : decode b_md_pause 21 = .ok (.iload_n 1, 1) := by decide +kernel
theorem d_md_pause_22 : decode b_md_pause 22 = .ok (.iaload, 1) := by decide +kernel
theorem d_md_pause_23 : decode b_md_pause 23 = .ok (.ifCond .lt 17, 3) := by decide +kernel
theorem d_md_pause_26 : decode b_md_pause 26 = .ok (.iload_n 2, 1) := by decide +kernel
theorem d_md_pause_27 : decode b_md_pause 27 = .ok (.ifCond .ne 17, 3) := by decide +kernel
theorem d_md_pause_30 : decode b_md_pause 30 = .ok (.aload_n 0, 1) := by decide +kernel
theorem d_md_pause_31 : decode b_md_pause 31 = .ok (.getfield 50, 3) := by decide +kernel
theorem d_md_pause_34 : decode b_md_pause 34 = .ok (.iload_n 1, 1) := by decide +kernel
theorem d_md_pause_35 : decode b_md_pause 35 = .ok (.iaload, 1) := by decide +kernel
theorem d_md_pause_36 : decode b_md_pause 36 = .ok (.iconst 3, 1) := by decide +kernel
theorem d_md_pause_37 : decode b_md_pause 37 = .ok (.if_icmp .ne 7, 3) := by decide +kernel
theorem d_md_pause_40 : decode b_md_pause 40 = .ok (.iconst 2, 1) := by decide +kernel
theorem d_md_pause_41 : decode b_md_pause 41 = .ok (.goto 4, 3) := by decide +kernel
theorem d_md_pause_44 : decode b_md_pause 44 = .ok (.iconst 0, 1) := by decide +kernel
theorem d_md_pause_45 : decode b_md_pause 45 = .ok (.putfield 99, 3) := by decide +kernel
theorem d_md_pause_48 : decode b_md_pause 48 = .ok (.aload_n 0, 1) := by decide +kernel
theorem d_md_pause_49 : decode b_md_pause 49 = .ok (.getfield 99, 3) := by decide +kernel
theorem d_md_pause_52 : decode b_md_pause 52 = .ok (.ifCond .le 5, 3) := by decide +kernel
theorem d_md_pause_55 : decode b_md_pause 55 = .ok (.iconst 0, 1) := by decide +kernel
theorem d_md_pause_56 : decode b_md_pause 56 = .ok (.ireturn, 1) := by decide +kernel
theorem d_md_pause_57 : decode b_md_pause 57 = .ok (.aload_n 0, 1) := by decide +kernel
theorem d_md_pause_58 : decode b_md_pause 58 = .ok (.getfield 47, 3) := by decide +kernel
theorem d_md_pause_61 : decode b_md_pause 61 = .ok (.iload_n 1, 1) := by decide +kernel
theorem d_md_pause_62 : decode b_md_pause 62 = .ok (.iaload, 1) := by decide +kernel
theorem d_md_pause_63 : decode b_md_pause 63 = .ok (.iconst 1, 1) := by decide +kernel
theorem d_md_pause_64 : decode b_md_pause 64 = .ok (.if_icmp .ne 7, 3) := by decide +kernel
theorem d_md_pause_67 : decode b_md_pause 67 = .ok (.iconst 1, 1) := by decide +kernel
theorem d_md_pause_68 : decode b_md_pause 68 = .ok (.goto 4, 3) := by decide +kernel
theorem d_md_pause_71 : decode b_md_pause 71 = .ok (.iconst 0, 1) := by decide +kernel
theorem d_md_pause_72 : decode b_md_pause 72 = .ok (.iload_n 2, 1) := by decide +kernel
theorem d_md_pause_73 : decode b_md_pause 73 = .ok (.if_icmp .eq 7, 3) := by decide +kernel
theorem d_md_pause_76 : decode b_md_pause 76 = .ok (.iconst 1, 1) := by decide +kernel
theorem d_md_pause_77 : decode b_md_pause 77 = .ok (.goto 4, 3) := by decide +kernel
theorem d_md_pause_80 : decode b_md_pause 80 = .ok (.iconst 0, 1) := by decide +kernel
theorem d_md_pause_81 : decode b_md_pause 81 = .ok (.istore_n 3, 1) := by decide +kernel
theorem d_md_pause_82 : decode b_md_pause 82 = .ok (.aload_n 0, 1) := by decide +kernel
theorem d_md_pause_83 : decode b_md_pause 83 = .ok (.getfield 47, 3) := by decide +kernel
theorem d_md_pause_86 : decode b_md_pause 86 = .ok (.iload_n 1, 1) := by decide +kernel
theorem d_md_pause_87 : decode b_md_pause 87 = .ok (.iload_n 2, 1) := by decide +kernel
theorem d_md_pause_88 : decode b_md_pause 88 = .ok (.ifCond .eq 7, 3) := by decide +kernel
theorem d_md_pause_91 : decode b_md_pause 91 = .ok (.iconst 1, 1) := by decide +kernel
theorem d_md_pause_92 : decode b_md_pause 92 = .ok (.goto 4, 3) := by decide +kernel
theorem d_md_pause_95 : decode b_md_pause 95 = .ok (.iconst 0, 1) := by decide +kernel
theorem d_md_pause_96 : decode b_md_pause 96 = .ok (.iastore, 1) := by decide +kernel
theorem d_md_pause_97 : decode b_md_pause 97 = .ok (.iload_n 3, 1) := by decide +kernel
theorem d_md_pause_98 : decode b_md_pause 98 = .ok (.ireturn, 1) := by decide +kernel
theorem d_md_event_0 : decode b_md_event 0 = .ok (.iload_n 2, 1) := by decide +kernel
theorem d_md_event_1 : decode b_md_event 1 = .ok (.i2l, 1) := by decide +kernel
theorem d_md_event_2 : decode b_md_event 2 = .ok (.lconst 0, 1) := by decide +kernel
theorem d_md_event_3 : decode b_md_event 3 = .ok (.ldc2_w 201, 3) := by decide +kernel
theorem d_md_event_6 : decode b_md_event 6 = .ok (.invokestatic 106, 3) := by decide +kernel
theorem d_md_event_9 : decode b_md_event 9 = .ok (.ifCond .eq 16, 3) := by decide +kernel
theorem d_md_event_12 : decode b_md_event 12 = .ok (.iload 4, 2) := by decide +kernel
theorem d_md_event_14 : decode b_md_event 14 = .ok (.i2l, 1) := by decide +kernel
theorem d_md_event_15 : decode b_md_event 15 = .ok (.lconst 1, 1) := by decide +kernel
theorem d_md_event_16 : decode b_md_event 16 = .ok (.ldc2_w 211, 3) := by decide +kernel
theorem d_md_event_19 : decode b_md_event 19 = .ok (.invokestatic 106, 3) := by decide +kernel
theorem d_md_event_22 : decode b_md_event 22 = .ok (.ifCond .ne 9, 3) := by decide +kernel
theorem d_md_event_25 : decode b_md_event 25 = .ok (.aload_n 0, 1) := by decide +kernel
theorem d_md_event_26 : decode b_md_event 26 = .ok (.iconst 1, 1) := by decide +kernel
theorem d_md_event_27 : decode b_md_event 27 = .ok (.invokevirtual 110, 3) := by decide +kernel
theorem d_md_event_30 : decode b_md_event 30 = .ok (.ireturn, 1) := by decide +kernel
theorem d_md_event_31 : decode b_md_event 31 = .ok (.iload_n 3, 1) := by decide +kernel
theorem d_md_event_32 : decode b_md_event 32 = .ok (.aload_n 0, 1) := by decide +kernel
theorem d_md_event_33 : decode b_md_event 33 = .ok (.getfield 188, 3) := by decide +kernel
theorem d_md_event_36 : decode b_md_event 36 = .ok (.if_icmp .gt 18, 3) := by decide +kernel
theorem d_md_event_39 : decode b_md_event 39 = .ok (.iload_n 3, 1) := by decide +kernel
theorem d_md_event_40 : decode b_md_event 40 = .ok (.aload_n 0, 1) := by decide +kernel
theorem d_md_event_41 : decode b_md_event 41 = .ok (.getfield 188, 3) := by decide +kernel
theorem d_md_event_44 : decode b_md_event 44 = .ok (.bipush 45, 2) := by decide +kernel
theorem d_md_event_46 : decode b_md_event 46 = .ok (.isub, 1) := by decide +kernel
theorem d_md_event_47 : decode b_md_event 47 = .ok (.if_icmp .lt 7, 3) := by decide +kernel
theorem d_md_event_50 : decode b_md_event 50 = .ok (.iload_n 3, 1) := by decide +kernel
theorem d_md_event_51 : decode b_md_event 51 = .ok (.ifCond .ge 9, 3) := by decide +kernel
theorem d_md_event_54 : decode b_md_event 54 = .ok (.aload_n 0, 1) := by decide +kernel
theorem d_md_event_55 : decode b_md_event 55 = .ok (.iconst 2, 1) := by decide +kernel
theorem d_md_event_56 : decode b_md_event 56 = .ok (.invokevirtual 110, 3) := by decide +kernel
theorem d_md_event_59 : decode b_md_event 59 = .ok (.ireturn, 1) := by decide +kernel
theorem d_md_event_60 : decode b_md_event 60 = .ok (.aload_n 0, 1) := by decide +kernel
theorem d_md_event_61 : decode b_md_event 61 = .ok (.iconst 0, 1) := by decide +kernel
theorem d_md_event_62 : decode b_md_event 62 = .ok (.putfield 99, 3) := by decide +kernel
theorem d_md_event_65 : decode b_md_event 65 = .ok (.iconst 0, 1) := by decide +kernel
theorem d_md_event_66 : decode b_md_event 66 = .ok (.istore 5, 2) := by decide +kernel
theorem d_md_event_68 : decode b_md_event 68 = .ok (.iload 5, 2) := by decide +kernel
theorem d_md_event_70 : decode b_md_event 70 = .ok (.aload_n 0, 1) := by decide +kernel
theorem d_md_event_71 : decode b_md_event 71 = .ok (.getfield 198, 3) := by decide +kernel
theorem d_md_event_74 : decode b_md_event 74 = .ok (.if_icmp .ge 22, 3) := by decide +kernel
theorem d_md_event_77 : decode b_md_event 77 = .ok (.aload_n 0, 1) := by decide +kernel
theorem d_md_event_78 : decode b_md_event 78 = .ok (.getfield 60, 3) := by decide +kernel
theorem d_md_event_81 : decode b_md_event 81 = .ok (.iload 5, 2) := by decide +kernel
theorem d_md_event_83 : decode b_md_event 83 = .ok (.iaload, 1) := by decide +kernel
theorem d_md_event_84 : decode b_md_event 84 = .ok (.iload_n 1, 1) := by decide +kernel
theorem d_md_event_85 : decode b_md_event 85 = .ok (.if_icmp .ne 5, 3) := by decide +kernel
theorem d_md_event_88 : decode b_md_event 88 = .ok (.iconst 0, 1) := by decide +kernel
theorem d_md_event_89 : decode b_md_event 89 = .ok (.ireturn, 1) := by decide +kernel
theorem d_md_event_90 : decode b_md_event 90 = .ok (.iinc 5 1, 3) := by decide +kernel
theorem d_md_event_93 : decode b_md_event 93 = .ok (.goto (-25), 3) := by decide +kernel
theorem d_md_event_96 : decode b_md_event 96 = .ok (.aload_n 0, 1) := by decide +kernel
theorem d_md_event_97 : decode b_md_event 97 = .ok (.getfield 198, 3) := by decide +kernel
theorem d_md_event_100 : decode b_md_event 100 = .ok (.bipush 80, 2) := by decide +kernel
theorem d_md_event_102 : decode b_md_event 102 = .ok (.if_icmp .ne 9, 3) := by decide +kernel
theorem d_md_event_105 : decode b_md_event 105 = .ok (.aload_n 0, 1) := by decide +kernel
theorem d_md_event_106 : decode b_md_event 106 = .ok (.iconst 3, 1) := by decide +kernel
theorem d_md_event_107 : decode b_md_event 107 = .ok (.invokevirtual 110, 3) := by decide +kernel
theorem d_md_event_110 : decode b_md_event 110 = .ok (.ireturn, 1) := by decide +kernel
theorem d_md_event_111 : decode b_md_event 111 = .ok (.aload_n 0, 1) := by decide +kernel
theorem d_md_event_112 : decode b_md_event 112 = .ok (.getfield 60, 3) := by decide +kernel
theorem d_md_event_115 : decode b_md_event 115 = .ok (.aload_n 0, 1) := by decide +kernel
theorem d_md_event_116 : decode b_md_event 116 = .ok (.getfield 198, 3) := by decide +kernel
theorem d_md_event_119 : decode b_md_event 119 = .ok (.iload_n 1, 1) := by decide +kernel
theorem d_md_event_120 : decode b_md_event 120 = .ok (.iastore, 1) := by decide +kernel
theorem d_md_event_121 : decode b_md_event 121 = .ok (.aload_n 0, 1) := by decide +kernel
theorem d_md_event_122 : decode b_md_event 122 = .ok (.getfield 63, 3) := by decide +kernel
theorem d_md_event_125 : decode b_md_event 125 = .ok (.aload_n 0, 1) := by decide +kernel
theorem d_md_event_126 : decode b_md_event 126 = .ok (.getfield 198, 3) := by decide +kernel
theorem d_md_event_129 : decode b_md_event 129 = .ok (.iload_n 2, 1) := by decide +kernel
theorem d_md_event_130 : decode b_md_event 130 = .ok (.iastore, 1) := by decide +kernel
theorem d_md_event_131 : decode b_md_event 131 = .ok (.aload_n 0, 1) := by decide +kernel
theorem d_md_event_132 : decode b_md_event 132 = .ok (.getfield 66, 3) := by decide +kernel
theorem d_md_event_135 : decode b_md_event 135 = .ok (.aload_n 0, 1) := by decide +kernel
theorem d_md_event_136 : decode b_md_event 136 = .ok (.getfield 198, 3) := by decide +kernel
theorem d_md_event_139 : decode b_md_event 139 = .ok (.iload_n 3, 1) := by decide +kernel
theorem d_md_event_140 : decode b_md_event 140 = .ok (.iastore, 1) := by decide +kernel
theorem d_md_event_141 : decode b_md_event 141 = .ok (.aload_n 0, 1) := by decide +kernel
theorem d_md_event_142 : decode b_md_event 142 = .ok (.getfield 69, 3) := by decide +kernel
theorem d_md_event_145 : decode b_md_event 145 = .ok (.aload_n 0, 1) := by decide +kernel
theorem d_md_event_146 : decode b_md_event 146 = .ok (.getfield 198, 3) := by decide +kernel
theorem d_md_event_149 : decode b_md_event 149 = .ok (.iload 4, 2) := by decide +kernel
theorem d_md_event_151 : decode b_md_event 151 = .ok (.iastore, 1) := by decide +kernel
theorem d_md_event_152 : decode b_md_event 152 = .ok (.aload_n 0, 1) := by decide +kernel
theorem d_md_event_153 : decode b_md_event 153 = .ok (.dup, 1) := by decide +kernel
theorem d_md_event_154 : decode b_md_event 154 = .ok (.getfield 198, 3) := by decide +kernel
theorem d_md_event_157 : decode b_md_event 157 = .ok (.iconst 1, 1) := by decide +kernel
theorem d_md_event_158 : decode b_md_event 158 = .ok (.iadd, 1) := by decide +kernel
theorem d_md_event_159 : decode b_md_event 159 = .ok (.putfield 198, 3) := by decide +kernel
theorem d_md_event_162 : decode b_md_event 162 = .ok (.aload_n 0, 1) := by decide +kernel
theorem d_md_event_163 : decode b_md_event 163 = .ok (.getfield 198, 3) := by decide +kernel
theorem d_md_event_166 : decode b_md_event 166 = .ok (.ireturn, 1) := by decide +kernel
theorem d_md_overdue_0 : decode b_md_overdue 0 = .ok (.aload_n 0, 1) := by decide +kernel
theorem d_md_overdue_1 : decode b_md_overdue 1 = .ok (.getfield 188, 3) := by decide +kernel
theorem d_md_overdue_4 : decode b_md_overdue 4 = .ok (.aload_n 0, 1) := by decide +kernel
theorem d_md_overdue_5 : decode b_md_overdue 5 = .ok (.getfield 78, 3) := by decide +kernel
theorem d_md_overdue_8 : decode b_md_overdue 8 = .ok (.iload_n 1, 1) := by decide +kernel
theorem d_md_overdue_9 : decode b_md_overdue 9 = .ok (.iaload, 1) := by decide +kernel
theorem d_md_overdue_10 : decode b_md_overdue 10 = .ok (.isub, 1) := by decide +kernel
theorem d_md_overdue_11 : decode b_md_overdue 11 = .ok (.bipush 14, 2) := by decide +kernel
theorem d_md_overdue_13 : decode b_md_overdue 13 = .ok (.isub, 1) := by decide +kernel
theorem d_md_overdue_14 : decode b_md_overdue 14 = .ok (.istore_n 2, 1) := by decide +kernel
theorem d_md_overdue_15 : decode b_md_overdue 15 = .ok (.aload_n 0, 1) := by decide +kernel
theorem d_md_overdue_16 : decode b_md_overdue 16 = .ok (.getfield 81, 3) := by decide +kernel
theorem d_md_overdue_19 : decode b_md_overdue 19 = .ok (.iload_n 1, 1) := by decide +kernel
theorem d_md_overdue_20 : decode b_md_overdue 20 = .ok (.laload, 1) := by decide +kernel
theorem d_md_overdue_21 : decode b_md_overdue 21 = .ok (.aload_n 0, 1) := by decide +kernel
theorem d_md_overdue_22 : decode b_md_overdue 22 = .ok (.getfield 84, 3) := by decide +kernel
theorem d_md_overdue_25 : decode b_md_overdue 25 = .ok (.iload_n 1, 1) := by decide +kernel
theorem d_md_overdue_26 : decode b_md_overdue 26 = .ok (.laload, 1) := by decide +kernel
theorem d_md_overdue_27 : decode b_md_overdue 27 = .ok (.lcmp, 1) := by decide +kernel
theorem d_md_overdue_28 : decode b_md_overdue 28 = .ok (.ifCond .le 11, 3) := by decide +kernel
theorem d_md_overdue_31 : decode b_md_overdue 31 = .ok (.iload_n 2, 1) := by decide +kernel
theorem d_md_overdue_32 : decode b_md_overdue 32 = .ok (.ifCond .le 7, 3) := by decide +kernel
theorem d_md_overdue_35 : decode b_md_overdue 35 = .ok (.iload_n 2, 1) := by decide +kernel
theorem d_md_overdue_36 : decode b_md_overdue 36 = .ok (.goto 4, 3) := by decide +kernel
theorem d_md_overdue_39 : decode b_md_overdue 39 = .ok (.iconst 0, 1) := by decide +kernel
theorem d_md_overdue_40 : decode b_md_overdue 40 = .ok (.ireturn, 1) := by decide +kernel
theorem d_md_look2_0 : decode b_md_look2 0 = .ok (.iconst 0, 1) := by decide +kernel
theorem d_md_look2_1 : decode b_md_look2 1 = .ok (.istore_n 2, 1) := by decide +kernel
theorem d_md_look2_2 : decode b_md_look2 2 = .ok (.iconst 0, 1) := by decide +kernel
theorem d_md_look2_3 : decode b_md_look2 3 = .ok (.istore_n 3, 1) := by decide +kernel
theorem d_md_look2_4 : decode b_md_look2 4 = .ok (.iload_n 3, 1) := by decide +kernel
theorem d_md_look2_5 : decode b_md_look2 5 = .ok (.aload_n 0, 1) := by decide +kernel
theorem d_md_look2_6 : decode b_md_look2 6 = .ok (.getfield 213, 3) := by decide +kernel
theorem d_md_look2_9 : decode b_md_look2 9 = .ok (.if_icmp .ge 34, 3) := by decide +kernel
theorem d_md_look2_12 : decode b_md_look2 12 = .ok (.aload_n 0, 1) := by decide +kernel
theorem d_md_look2_13 : decode b_md_look2 13 = .ok (.getfield 72, 3) := by decide +kernel
theorem d_md_look2_16 : decode b_md_look2 16 = .ok (.iload_n 3, 1) := by decide +kernel
theorem d_md_look2_17 : decode b_md_look2 17 = .ok (.iaload, 1) := by decide +kernel
theorem d_md_look2_18 : decode b_md_look2 18 = .ok (.iload_n 1, 1) := by decide +kernel
theorem d_md_look2_19 : decode b_md_look2 19 = .ok (.if_icmp .ne 18, 3) := by decide +kernel
theorem d_md_look2_22 : decode b_md_look2 22 = .ok (.aload_n 0, 1) := by decide +kernel
theorem d_md_look2_23 : decode b_md_look2 23 = .ok (.iload_n 3, 1) := by decide +kernel
theorem d_md_look2_24 : decode b_md_look2 24 = .ok (.invokevirtual 216, 3) := by decide +kernel
theorem d_md_look2_27 : decode b_md_look2 27 = .ok (.iload_n 2, 1) := by decide +kernel
theorem d_md_look2_28 : decode b_md_look2 28 = .ok (.if_icmp .le 9, 3) := by decide +kernel
theorem d_md_look2_31 : decode b_md_look2 31 = .ok (.aload_n 0, 1) := by decide +kernel
theorem d_md_look2_32 : decode b_md_look2 32 = .ok (.iload_n 3, 1) := by decide +kernel
theorem d_md_look2_33 : decode b_md_look2 33 = .ok (.invokevirtual 216, 3) := by decide +kernel
theorem d_md_look2_36 : decode b_md_look2 36 = .ok (.istore_n 2, 1) := by decide +kernel
theorem d_md_look2_37 : decode b_md_look2 37 = .ok (.iinc 3 1, 3) := by decide +kernel
theorem d_md_look2_40 : decode b_md_look2 40 = .ok (.goto (-36), 3) := by decide +kernel
theorem d_md_look2_43 : decode b_md_look2 43 = .ok (.iload_n 2, 1) := by decide +kernel
theorem d_md_look2_44 : decode b_md_look2 44 = .ok (.ifCond .ne 7, 3) := by decide +kernel
theorem d_md_look2_47 : decode b_md_look2 47 = .ok (.iconst 0, 1) := by decide +kernel
theorem d_md_look2_48 : decode b_md_look2 48 = .ok (.goto 24, 3) := by decide +kernel
theorem d_md_look2_51 : decode b_md_look2 51 = .ok (.iload_n 2, 1) := by decide +kernel
theorem d_md_look2_52 : decode b_md_look2 52 = .ok (.bipush 10, 2) := by decide +kernel
theorem d_md_look2_54 : decode b_md_look2 54 = .ok (.if_icmp .gt 7, 3) := by decide +kernel
theorem d_md_look2_57 : decode b_md_look2 57 = .ok (.iconst 1, 1) := by decide +kernel
theorem d_md_look2_58 : decode b_md_look2 58 = .ok (.goto 14, 3) := by decide +kernel
theorem d_md_look2_61 : decode b_md_look2 61 = .ok (.iload_n 2, 1) := by decide +kernel
theorem d_md_look2_62 : decode b_md_look2 62 = .ok (.bipush 20, 2) := by decide +kernel
theorem d_md_look2_64 : decode b_md_look2 64 = .ok (.if_icmp .gt 7, 3) := by decide +kernel
theorem d_md_look2_67 : decode b_md_look2 67 = .ok (.iconst 2, 1) := by decide +kernel
theorem d_md_look2_68 : decode b_md_look2 68 = .ok (.goto 4, 3) := by decide +kernel
theorem d_md_look2_71 : decode b_md_look2 71 = .ok (.iconst 3, 1) := by decide +kernel
theorem d_md_look2_72 : decode b_md_look2 72 = .ok (.istore_n 3, 1) := by decide +kernel
theorem d_md_look2_73 : decode b_md_look2 73 = .ok (.iload_n 2, 1) := by decide +kernel
theorem d_md_look2_74 : decode b_md_look2 74 = .ok (.ifCond .le 20, 3) := by decide +kernel
theorem d_md_look2_77 : decode b_md_look2 77 = .ok (.iload_n 3, 1) := by decide +kernel
theorem d_md_look2_78 : decode b_md_look2 78 = .ok (.aload_n 0, 1) := by decide +kernel
theorem d_md_look2_79 : decode b_md_look2 79 = .ok (.getfield 50, 3) := by decide +kernel
theorem d_md_look2_82 : decode b_md_look2 82 = .ok (.iload_n 1, 1) := by decide +kernel
theorem d_md_look2_83 : decode b_md_look2 83 = .ok (.iaload, 1) := by decide +kernel
theorem d_md_look2_84 : decode b_md_look2 84 = .ok (.if_icmp .ge 10, 3) := by decide +kernel
theorem d_md_look2_87 : decode b_md_look2 87 = .ok (.aload_n 0, 1) := by decide +kernel
theorem d_md_look2_88 : decode b_md_look2 88 = .ok (.getfield 50, 3) := by decide +kernel
theorem d_md_look2_91 : decode b_md_look2 91 = .ok (.iload_n 1, 1) := by decide +kernel
theorem d_md_look2_92 : decode b_md_look2 92 = .ok (.iaload, 1) := by decide +kernel
theorem d_md_look2_93 : decode b_md_look2 93 = .ok (.istore_n 3, 1) := by decide +kernel
theorem d_md_look2_94 : decode b_md_look2 94 = .ok (.iload_n 3, 1) := by decide +kernel
theorem d_md_look2_95 : decode b_md_look2 95 = .ok (.iconst 3, 1) := by decide +kernel
theorem d_md_look2_96 : decode b_md_look2 96 = .ok (.if_icmp .ne 20, 3) := by decide +kernel
theorem d_md_look2_99 : decode b_md_look2 99 = .ok (.aload_n 0, 1) := by decide +kernel
theorem d_md_look2_100 : decode b_md_look2 100 = .ok (.getfield 50, 3) := by decide +kernel
theorem d_md_look2_103 : decode b_md_look2 103 = .ok (.iload_n 1, 1) := by decide +kernel
theorem d_md_look2_104 : decode b_md_look2 104 = .ok (.iaload, 1) := by decide +kernel
theorem d_md_look2_105 : decode b_md_look2 105 = .ok (.iconst 3, 1) := by decide +kernel
theorem d_md_look2_106 : decode b_md_look2 106 = .ok (.if_icmp .ge 10, 3) := by decide +kernel
theorem d_md_look2_109 : decode b_md_look2 109 = .ok (.aload_n 0, 1) := by decide +kernel
theorem d_md_look2_110 : decode b_md_look2 110 = .ok (.getfield 47, 3) := by decide +kernel
theorem d_md_look2_113 : decode b_md_look2 113 = .ok (.iload_n 1, 1) := by decide +kernel
theorem d_md_look2_114 : decode b_md_look2 114 = .ok (.iconst 1, 1) := by decide +kernel
theorem d_md_look2_115 : decode b_md_look2 115 = .ok (.iastore, 1) := by decide +kernel
theorem d_md_look2_116 : decode b_md_look2 116 = .ok (.iload_n 3, 1) := by decide +kernel
theorem d_md_look2_117 : decode b_md_look2 117 = .ok (.ifCond .ne 20, 3) := by decide +kernel
theorem d_md_look2_120 : decode b_md_look2 120 = .ok (.aload_n 0, 1) := by decide +kernel
theorem d_md_look2_121 : decode b_md_look2 121 = .ok (.getfield 50, 3) := by decide +kernel
theorem d_md_look2_124 : decode b_md_look2 124 = .ok (.iload_n 1, 1) := by decide +kernel
theorem d_md_look2_125 : decode b_md_look2 125 = .ok (.iaload, 1) := by decide +kernel
theorem d_md_look2_126 : decode b_md_look2 126 = .ok (.iconst 3, 1) := by decide +kernel
theorem d_md_look2_127 : decode b_md_look2 127 = .ok (.if_icmp .ne 10, 3) := by decide +kernel
theorem d_md_look2_130 : decode b_md_look2 130 = .ok (.aload_n 0, 1) := by decide +kernel
theorem d_md_look2_131 : decode b_md_look2 131 = .ok (.getfield 47, 3) := by decide +kernel
theorem d_md_look2_134 : decode b_md_look2 134 = .ok (.iload_n 1, 1) := by decide +kernel
theorem d_md_look2_135 : decode b_md_look2 135 = .ok (.iconst 0, 1) := by decide +kernel
theorem d_md_look2_136 : decode b_md_look2 136 = .ok (.iastore, 1) := by decide +kernel
theorem d_md_look2_137 : decode b_md_look2 137 = .ok (.aload_n 0, 1) := by decide +kernel
theorem d_md_look2_138 : decode b_md_look2 138 = .ok (.getfield 50, 3) := by decide +kernel
theorem d_md_look2_141 : decode b_md_look2 141 = .ok (.iload_n 1, 1) := by decide +kernel
theorem d_md_look2_142 : decode b_md_look2 142 = .ok (.iload_n 3, 1) := by decide +kernel
theorem d_md_look2_143 : decode b_md_look2 143 = .ok (.iastore, 1) := by decide +kernel
theorem d_md_look2_144 : decode b_md_look2 144 = .ok (.return_, 1) := by decide +kernel
theorem d_md_tick_0 : decode b_md_tick 0 = .ok (.iload_n 1, 1) := by decide +kernel
theorem d_md_tick_1 : decode b_md_tick 1 = .ok (.i2l, 1) := by decide +kernel
theorem d_md_tick_2 : decode b_md_tick 2 = .ok (.lconst 1, 1) := by decide +kernel
theorem d_md_tick_3 : decode b_md_tick 3 = .ok (.ldc2_w 219, 3) := by decide +kernel
theorem d_md_tick_6 : decode b_md_tick 6 = .ok (.invokestatic 106, 3) := by decide +kernel
theorem d_md_tick_9 : decode b_md_tick 9 = .ok (.ifCond .ne 9, 3) := by decide +kernel
theorem d_md_tick_12 : decode b_md_tick 12 = .ok (.aload_n 0, 1) := by decide +kernel
theorem d_md_tick_13 : decode b_md_tick 13 = .ok (.iconst 1, 1) := by decide +kernel
theorem d_md_tick_14 : decode b_md_tick 14 = .ok (.invokevirtual 110, 3) := by decide +kernel
theorem d_md_tick_17 : decode b_md_tick 17 = .ok (.ireturn, 1) := by decide +kernel
theorem d_md_tick_18 : decode b_md_tick 18 = .ok (.aload_n 0, 1) := by decide +kernel
theorem d_md_tick_19 : decode b_md_tick 19 = .ok (.getfield 188, 3) := by decide +kernel
theorem d_md_tick_22 : decode b_md_tick 22 = .ok (.iload_n 1, 1) := by decide +kernel
theorem d_md_tick_23 : decode b_md_tick 23 = .ok (.iadd, 1) := by decide +kernel
theorem d_md_tick_24 : decode b_md_tick 24 = .ok (.sipush 400, 3) := by decide +kernel
theorem d_md_tick_27 : decode b_md_tick 27 = .ok (.if_icmp .le 9, 3) := by decide +kernel
theorem d_md_tick_30 : decode b_md_tick 30 = .ok (.aload_n 0, 1) := by decide +kernel
theorem d_md_tick_31 : decode b_md_tick 31 = .ok (.iconst 2, 1) := by decide +kernel
theorem d_md_tick_32 : decode b_md_tick 32 = .ok (.invokevirtual 110, 3) := by decide +kernel
theorem d_md_tick_35 : decode b_md_tick 35 = .ok (.ireturn, 1) := by decide +kernel
theorem d_md_tick_36 : decode b_md_tick 36 = .ok (.aload_n 0, 1) := by decide +kernel
theorem d_md_tick_37 : decode b_md_tick 37 = .ok (.iconst 0, 1) := by decide +kernel
theorem d_md_tick_38 : decode b_md_tick 38 = .ok (.putfield 99, 3) := by decide +kernel
theorem d_md_tick_41 : decode b_md_tick 41 = .ok (.iconst 0, 1) := by decide +kernel
theorem d_md_tick_42 : decode b_md_tick 42 = .ok (.istore_n 2, 1) := by decide +kernel
theorem d_md_tick_43 : decode b_md_tick 43 = .ok (.iload_n 2, 1) := by decide +kernel
theorem d_md_tick_44 : decode b_md_tick 44 = .ok (.iload_n 1, 1) := by decide +kernel
theorem d_md_tick_45 : decode b_md_tick 45 = .ok (.if_icmp .ge 87, 3) := by decide +kernel
theorem d_md_tick_48 : decode b_md_tick 48 = .ok (.iconst 0, 1) := by decide +kernel
theorem d_md_tick_49 : decode b_md_tick 49 = .ok (.istore_n 3, 1) := by decide +kernel
theorem d_md_tick_50 : decode b_md_tick 50 = .ok (.iload_n 3, 1) := by decide +kernel
theorem d_md_tick_51 : decode b_md_tick 51 = .ok (.iconst 5, 1) := by decide +kernel
theorem d_md_tick_52 : decode b_md_tick 52 = .ok (.if_icmp .ge 46, 3) := by decide +kernel
theorem d_md_tick_55 : decode b_md_tick 55 = .ok (.aload_n 0, 1) := by decide +kernel
theorem d_md_tick_56 : decode b_md_tick 56 = .ok (.getfield 57, 3) := by decide +kernel
theorem d_md_tick_59 : decode b_md_tick 59 = .ok (.sipush 401, 3) := by decide +kernel
theorem d_md_tick_62 : decode b_md_tick 62 = .ok (.iload_n 3, 1) := by decide +kernel
theorem d_md_tick_63 : decode b_md_tick 63 = .ok (.imul, 1) := by decide +kernel
theorem d_md_tick_64 : decode b_md_tick 64 = .ok (.aload_n 0, 1) := by decide +kernel
theorem d_md_tick_65 : decode b_md_tick 65 = .ok (.getfield 188, 3) := by decide +kernel
theorem d_md_tick_68 : decode b_md_tick 68 = .ok (.iadd, 1) := by decide +kernel
theorem d_md_tick_69 : decode b_md_tick 69 = .ok (.aload_n 0, 1) := by decide +kernel
theorem d_md_tick_70 : decode b_md_tick 70 = .ok (.getfield 47, 3) := by decide +kernel
theorem d_md_tick_73 : decode b_md_tick 73 = .ok (.iload_n 3, 1) := by decide +kernel
theorem d_md_tick_74 : decode b_md_tick 74 = .ok (.iaload, 1) := by decide +kernel
theorem d_md_tick_75 : decode b_md_tick 75 = .ok (.iconst 1, 1) := by decide +kernel
theorem d_md_tick_76 : decode b_md_tick 76 = .ok (.if_icmp .ne 7, 3) := by decide +kernel
theorem d_md_tick_79 : decode b_md_tick 79 = .ok (.iconst 0, 1) := by decide +kernel
theorem d_md_tick_80 : decode b_md_tick 80 = .ok (.goto 11, 3) := by decide +kernel
theorem d_md_tick_83 : decode b_md_tick 83 = .ok (.aload_n 0, 1) := by decide +kernel
theorem d_md_tick_84 : decode b_md_tick 84 = .ok (.getfield 44, 3) := by decide +kernel
theorem d_md_tick_87 : decode b_md_tick 87 = .ok (.iload_n 3, 1) := by decide +kernel
theorem d_md_tick_88 : decode b_md_tick 88 = .ok (.iaload, 1) := by decide +kernel
theorem d_md_tick_89 : decode b_md_tick 89 = .ok (.iconst 1, 1) := by decide +kernel
theorem d_md_tick_90 : decode b_md_tick 90 = .ok (.iadd, 1) := by decide +kernel
theorem d_md_tick_91 : decode b_md_tick 91 = .ok (.iastore, 1) := by decide +kernel
theorem d_md_tick_92 : decode b_md_tick 92 = .ok (.iinc 3 1, 3) := by decide +kernel
theorem d_md_tick_95 : decode b_md_tick 95 = .ok (.goto (-45), 3) := by decide +kernel
theorem d_md_tick_98 : decode b_md_tick 98 = .ok (.aload_n 0, 1) := by decide +kernel
theorem d_md_tick_99 : decode b_md_tick 99 = .ok (.dup, 1) := by decide +kernel
theorem d_md_tick_100 : decode b_md_tick 100 = .ok (.getfield 188, 3) := by decide +kernel
theorem d_md_tick_103 : decode b_md_tick 103 = .ok (.iconst 1, 1) := by decide +kernel
theorem d_md_tick_104 : decode b_md_tick 104 = .ok (.iadd, 1) := by decide +kernel
theorem d_md_tick_105 : decode b_md_tick 105 = .ok (.putfield 188, 3) := by decide +kernel
theorem d_md_tick_108 : decode b_md_tick 108 = .ok (.iconst 0, 1) := by decide +kernel
theorem d_md_tick_109 : decode b_md_tick 109 = .ok (.istore_n 3, 1) := by decide +kernel
theorem d_md_tick_110 : decode b_md_tick 110 = .ok (.iload_n 3, 1) := by decide +kernel
theorem d_md_tick_111 : decode b_md_tick 111 = .ok (.iconst 5, 1) := by decide +kernel
theorem d_md_tick_112 : decode b_md_tick 112 = .ok (.if_icmp .ge 14, 3) := by decide +kernel
theorem d_md_tick_115 : decode b_md_tick 115 = .ok (.aload_n 0, 1) := by decide +kernel
theorem d_md_tick_116 : decode b_md_tick 116 = .ok (.iload_n 3, 1) := by decide +kernel
theorem d_md_tick_117 : decode b_md_tick 117 = .ok (.invokevirtual 221, 3) := by decide +kernel
theorem d_md_tick_120 : decode b_md_tick 120 = .ok (.iinc 3 1, 3) := by decide +kernel
theorem d_md_tick_123 : decode b_md_tick 123 = .ok (.goto (-13), 3) := by decide +kernel
theorem d_md_tick_126 : decode b_md_tick 126 = .ok (.iinc 2 1, 3) := by decide +kernel
theorem d_md_tick_129 : decode b_md_tick 129 = .ok (.goto (-86), 3) := by decide +kernel
theorem d_md_tick_132 : decode b_md_tick 132 = .ok (.aload_n 0, 1) := by decide +kernel
theorem d_md_tick_133 : decode b_md_tick 133 = .ok (.getfield 188, 3) := by decide +kernel
theorem d_md_tick_136 : decode b_md_tick 136 = .ok (.ireturn, 1) := by decide +kernel
theorem d_md_settle_0 : decode b_md_settle 0 = .ok (.iconst 0, 1) := by decide +kernel
theorem d_md_settle_1 : decode b_md_settle 1 = .ok (.istore_n 2, 1) := by decide +kernel
theorem d_md_settle_2 : decode b_md_settle 2 = .ok (.iconst 0, 1) := by decide +kernel
theorem d_md_settle_3 : decode b_md_settle 3 = .ok (.istore_n 3, 1) := by decide +kernel
theorem d_md_settle_4 : decode b_md_settle 4 = .ok (.iload_n 3, 1) := by decide +kernel
theorem d_md_settle_5 : decode b_md_settle 5 = .ok (.aload_n 0, 1) := by decide +kernel
theorem d_md_settle_6 : decode b_md_settle 6 = .ok (.getfield 213, 3) := by decide +kernel
theorem d_md_settle_9 : decode b_md_settle 9 = .ok (.if_icmp .ge 104, 3) := by decide +kernel
theorem d_md_settle_12 : decode b_md_settle 12 = .ok (.aload_n 0, 1) := by decide +kernel
theorem d_md_settle_13 : decode b_md_settle 13 = .ok (.getfield 53, 3) := by decide +kernel
theorem d_md_settle_16 : decode b_md_settle 16 = .ok (.iload_n 1, 1) := by decide +kernel
theorem d_md_settle_17 : decode b_md_settle 17 = .ok (.laload, 1) := by decide +kernel
theorem d_md_settle_18 : decode b_md_settle 18 = .ok (.lconst 0, 1) := by decide +kernel
theorem d_md_settle_19 : decode b_md_settle 19 = .ok (.lcmp, 1) := by decide +kernel
theorem d_md_settle_20 : decode b_md_settle 20 = .ok (.ifCond .le 93, 3) := by decide +kernel
theorem d_md_settle_23 : decode b_md_settle 23 = .ok (.aload_n 0, 1) := by decide +kernel
theorem d_md_settle_24 : decode b_md_settle 24 = .ok (.getfield 81, 3) := by decide +kernel
theorem d_md_settle_27 : decode b_md_settle 27 = .ok (.iload_n 3, 1) := by decide +kernel
theorem d_md_settle_28 : decode b_md_settle 28 = .ok (.laload, 1) := by decide +kernel
theorem d_md_settle_29 : decode b_md_settle 29 = .ok (.aload_n 0, 1) := by decide +kernel
theorem d_md_settle_30 : decode b_md_settle 30 = .ok (.getfield 84, 3) := by decide +kernel
theorem d_md_settle_33 : decode b_md_settle 33 = .ok (.iload_n 3, 1) := by decide +kernel
theorem d_md_settle_34 : decode b_md_settle 34 = .ok (.laload, 1) := by decide +kernel
theorem d_md_settle_35 : decode b_md_settle 35 = .ok (.lsub, 1) := by decide +kernel
theorem d_md_settle_36 : decode b_md_settle 36 = .ok (.lstore 4, 2) := by decide +kernel
theorem d_md_settle_38 : decode b_md_settle 38 = .ok (.aload_n 0, 1) := by decide +kernel
theorem d_md_settle_39 : decode b_md_settle 39 = .ok (.getfield 72, 3) := by decide +kernel
theorem d_md_settle_42 : decode b_md_settle 42 = .ok (.iload_n 3, 1) := by decide +kernel
theorem d_md_settle_43 : decode b_md_settle 43 = .ok (.iaload, 1) := by decide +kernel
theorem d_md_settle_44 : decode b_md_settle 44 = .ok (.iload_n 1, 1) := by decide +kernel
theorem d_md_settle_45 : decode b_md_settle 45 = .ok (.if_icmp .ne 62, 3) := by decide +kernel
theorem d_md_settle_48 : decode b_md_settle 48 = .ok (.lload 4, 2) := by decide +kernel
theorem d_md_settle_50 : decode b_md_settle 50 = .ok (.lconst 0, 1) := by decide +kernel
theorem d_md_settle_51 : decode b_md_settle 51 = .ok (.lcmp, 1) := by decide +kernel
theorem d_md_settle_52 : decode b_md_settle 52 = .ok (.ifCond .gt 6, 3) := by decide +kernel
theorem d_md_settle_55 : decode b_md_settle 55 = .ok (.goto 52, 3) := by decide +kernel
theorem d_md_settle_58 : decode b_md_settle 58 = .ok (.lload 4, 2) := by decide +kernel
theorem d_md_settle_60 : decode b_md_settle 60 = .ok (.aload_n 0, 1) := by decide +kernel
theorem d_md_settle_61 : decode b_md_settle 61 = .ok (.getfield 53, 3) := by decide +kernel
theorem d_md_settle_64 : decode b_md_settle 64 = .ok (.iload_n 1, 1) := by decide +kernel
theorem d_md_settle_65 : decode b_md_settle 65 = .ok (.laload, 1) := by decide +kernel
theorem d_md_settle_66 : decode b_md_settle 66 = .ok (.lcmp, 1) := by decide +kernel
theorem d_md_settle_67 : decode b_md_settle 67 = .ok (.ifCond .ge 8, 3) := by decide +kernel
theorem d_md_settle_70 : decode b_md_settle 70 = .ok (.lload 4, 2) := by decide +kernel
theorem d_md_settle_72 : decode b_md_settle 72 = .ok (.goto 9, 3) := by decide +kernel
theorem d_md_settle_75 : decode b_md_settle 75 = .ok (.aload_n 0, 1) := by decide +kernel
theorem d_md_settle_76 : decode b_md_settle 76 = .ok (.getfield 53, 3) := by decide +kernel
theorem d_md_settle_79 : decode b_md_settle 79 = .ok (.iload_n 1, 1) := by decide +kernel
theorem d_md_settle_80 : decode b_md_settle 80 = .ok (.laload, 1) := by decide +kernel
theorem d_md_settle_81 : decode b_md_settle 81 = .ok (.lstore 6, 2) := by decide +kernel
theorem d_md_settle_83 : decode b_md_settle 83 = .ok (.aload_n 0, 1) := by decide +kernel
theorem d_md_settle_84 : decode b_md_settle 84 = .ok (.getfield 84, 3) := by decide +kernel
theorem d_md_settle_87 : decode b_md_settle 87 = .ok (.iload_n 3, 1) := by decide +kernel
theorem d_md_settle_88 : decode b_md_settle 88 = .ok (.dup2, 1) := by decide +kernel
theorem d_md_settle_89 : decode b_md_settle 89 = .ok (.laload, 1) := by decide +kernel
theorem d_md_settle_90 : decode b_md_settle 90 = .ok (.lload 6, 2) := by decide +kernel
theorem d_md_settle_92 : decode b_md_settle 92 = .ok (.ladd, 1) := by decide +kernel
theorem d_md_settle_93 : decode b_md_settle 93 = .ok (.lastore, 1) := by decide +kernel
theorem d_md_settle_94 : decode b_md_settle 94 = .ok (.aload_n 0, 1) := by decide +kernel
theorem d_md_settle_95 : decode b_md_settle 95 = .ok (.getfield 53, 3) := by decide +kernel
theorem d_md_settle_98 : decode b_md_settle 98 = .ok (.iload_n 1, 1) := by decide +kernel
theorem d_md_settle_99 : decode b_md_settle 99 = .ok (.dup2, 1) := by decide +kernel
theorem d_md_settle_100 : decode b_md_settle 100 = .ok (.laload, 1) := by decide +kernel
theorem d_md_settle_101 : decode b_md_settle 101 = .ok (.lload 6, 2) := by decide +kernel
theorem d_md_settle_103 : decode b_md_settle 103 = .ok (.lsub, 1) := by decide +kernel
theorem d_md_settle_104 : decode b_md_settle 104 = .ok (.lastore, 1) := by decide +kernel
theorem d_md_settle_105 : decode b_md_settle 105 = .ok (.iconst 1, 1) := by decide +kernel
theorem d_md_settle_106 : decode b_md_settle 106 = .ok (.istore_n 2, 1) := by decide +kernel
theorem d_md_settle_107 : decode b_md_settle 107 = .ok (.iinc 3 1, 3) := by decide +kernel
theorem d_md_settle_110 : decode b_md_settle 110 = .ok (.goto (-106), 3) := by decide +kernel
theorem d_md_settle_113 : decode b_md_settle 113 = .ok (.iload_n 2, 1) := by decide +kernel
theorem d_md_settle_114 : decode b_md_settle 114 = .ok (.ifCond .eq 8, 3) := by decide +kernel
theorem d_md_settle_117 : decode b_md_settle 117 = .ok (.aload_n 0, 1) := by decide +kernel
theorem d_md_settle_118 : decode b_md_settle 118 = .ok (.iload_n 1, 1) := by decide +kernel
theorem d_md_settle_119 : decode b_md_settle 119 = .ok (.invokevirtual 221, 3) := by decide +kernel
theorem d_md_settle_122 : decode b_md_settle 122 = .ok (.return_, 1) := by decide +kernel
theorem d_md_run_0 : decode b_md_run 0 = .ok (.iconst 0, 1) := by decide +kernel
theorem d_md_run_1 : decode b_md_run 1 = .ok (.istore_n 1, 1) := by decide +kernel
theorem d_md_run_2 : decode b_md_run 2 = .ok (.aload_n 0, 1) := by decide +kernel
theorem d_md_run_3 : decode b_md_run 3 = .ok (.iconst 0, 1) := by decide +kernel
theorem d_md_run_4 : decode b_md_run 4 = .ok (.putfield 99, 3) := by decide +kernel
theorem d_md_run_7 : decode b_md_run 7 = .ok (.iconst 0, 1) := by decide +kernel
theorem d_md_run_8 : decode b_md_run 8 = .ok (.istore_n 2, 1) := by decide +kernel
theorem d_md_run_9 : decode b_md_run 9 = .ok (.iload_n 2, 1) := by decide +kernel
theorem d_md_run_10 : decode b_md_run 10 = .ok (.iconst 5, 1) := by decide +kernel
theorem d_md_run_11 : decode b_md_run 11 = .ok (.if_icmp .ge 219, 3) := by decide +kernel
theorem d_md_run_14 : decode b_md_run 14 = .ok (.iconst 0, 1) := by decide +kernel
theorem d_md_run_15 : decode b_md_run 15 = .ok (.istore_n 3, 1) := by decide +kernel
theorem d_md_run_16 : decode b_md_run 16 = .ok (.iload_n 3, 1) := by decide +kernel
theorem d_md_run_17 : decode b_md_run 17 = .ok (.bipush 14, 2) := by decide +kernel
theorem d_md_run_19 : decode b_md_run 19 = .ok (.if_icmp .ge 205, 3) := by decide +kernel
theorem d_md_run_22 : decode b_md_run 22 = .ok (.iload_n 3, 1) := by decide +kernel
theorem d_md_run_23 : decode b_md_run 23 = .ok (.iconst 1, 1) := by decide +kernel
theorem d_md_run_24 : decode b_md_run 24 = .ok (.iadd, 1) := by decide +kernel
theorem d_md_run_25 : decode b_md_run 25 = .ok (.invokestatic 191, 3) := by decide +kernel
theorem d_md_run_28 : decode b_md_run 28 = .ok (.aload_n 0, 1) := by decide +kernel
theorem d_md_run_29 : decode b_md_run 29 = .ok (.getfield 188, 3) := by decide +kernel
theorem d_md_run_32 : decode b_md_run 32 = .ok (.if_icmp .gt 192, 3) := by decide +kernel
theorem d_md_run_35 : decode b_md_run 35 = .ok (.lconst 0, 1) := by decide +kernel
theorem d_md_run_36 : decode b_md_run 36 = .ok (.lstore 4, 2) := by decide +kernel
theorem d_md_run_38 : decode b_md_run 38 = .ok (.iconst 0, 1) := by decide +kernel
theorem d_md_run_39 : decode b_md_run 39 = .ok (.istore 6, 2) := by decide +kernel
theorem d_md_run_41 : decode b_md_run 41 = .ok (.iload 6, 2) := by decide +kernel
theorem d_md_run_43 : decode b_md_run 43 = .ok (.aload_n 0, 1) := by decide +kernel
theorem d_md_run_44 : decode b_md_run 44 = .ok (.getfield 213, 3) := by decide +kernel
theorem d_md_run_47 : decode b_md_run 47 = .ok (.if_icmp .ge 43, 3) := by decide +kernel
theorem d_md_run_50 : decode b_md_run 50 = .ok (.aload_n 0, 1) := by decide +kernel
theorem d_md_run_51 : decode b_md_run 51 = .ok (.getfield 72, 3) := by decide +kernel
theorem d_md_run_54 : decode b_md_run 54 = .ok (.iload 6, 2) := by decide +kernel
theorem d_md_run_56 : decode b_md_run 56 = .ok (.iaload, 1) := by decide +kernel
theorem d_md_run_57 : decode b_md_run 57 = .ok (.iload_n 2, 1) := by decide +kernel
theorem d_md_run_58 : decode b_md_run 58 = .ok (.if_icmp .ne 26, 3) := by decide +kernel
theorem d_md_run_61 : decode b_md_run 61 = .ok (.aload_n 0, 1) := by decide +kernel
theorem d_md_run_62 : decode b_md_run 62 = .ok (.getfield 75, 3) := by decide +kernel
theorem d_md_run_65 : decode b_md_run 65 = .ok (.iload 6, 2) := by decide +kernel
theorem d_md_run_67 : decode b_md_run 67 = .ok (.iaload, 1) := by decide +kernel
theorem d_md_run_68 : decode b_md_run 68 = .ok (.iload_n 3, 1) := by decide +kernel
theorem d_md_run_69 : decode b_md_run 69 = .ok (.if_icmp .ne 15, 3) := by decide +kernel
theorem d_md_run_72 : decode b_md_run 72 = .ok (.lload 4, 2) := by decide +kernel
theorem d_md_run_74 : decode b_md_run 74 = .ok (.aload_n 0, 1) := by decide +kernel
theorem d_md_run_75 : decode b_md_run 75 = .ok (.getfield 81, 3) := by decide +kernel
theorem d_md_run_78 : decode b_md_run 78 = .ok (.iload 6, 2) := by decide +kernel
theorem d_md_run_80 : decode b_md_run 80 = .ok (.laload, 1) := by decide +kernel
theorem d_md_run_81 : decode b_md_run 81 = .ok (.ladd, 1) := by decide +kernel
theorem d_md_run_82 : decode b_md_run 82 = .ok (.lstore 4, 2) := by decide +kernel
theorem d_md_run_84 : decode b_md_run 84 = .ok (.iinc 6 1, 3) := by decide +kernel
theorem d_md_run_87 : decode b_md_run 87 = .ok (.goto (-46), 3) := by decide +kernel
theorem d_md_run_90 : decode b_md_run 90 = .ok (.aload_n 0, 1) := by decide +kernel
theorem d_md_run_91 : decode b_md_run 91 = .ok (.iload_n 2, 1) := by decide +kernel
theorem d_md_run_92 : decode b_md_run 92 = .ok (.iload_n 3, 1) := by decide +kernel
theorem d_md_run_93 : decode b_md_run 93 = .ok (.invokevirtual 205, 3) := by decide +kernel
theorem d_md_run_96 : decode b_md_run 96 = .ok (.lload 4, 2) := by decide +kernel
theorem d_md_run_98 : decode b_md_run 98 = .ok (.lsub, 1) := by decide +kernel
theorem d_md_run_99 : decode b_md_run 99 = .ok (.lstore 6, 2) := by decide +kernel
theorem d_md_run_101 : decode b_md_run 101 = .ok (.lload 6, 2) := by decide +kernel
theorem d_md_run_103 : decode b_md_run 103 = .ok (.lconst 0, 1) := by decide +kernel
theorem d_md_run_104 : decode b_md_run 104 = .ok (.lcmp, 1) := by decide +kernel
theorem d_md_run_105 : decode b_md_run 105 = .ok (.ifCond .eq 113, 3) := by decide +kernel
theorem d_md_run_108 : decode b_md_run 108 = .ok (.aload_n 0, 1) := by decide +kernel
theorem d_md_run_109 : decode b_md_run 109 = .ok (.getfield 213, 3) := by decide +kernel
theorem d_md_run_112 : decode b_md_run 112 = .ok (.bipush 50, 2) := by decide +kernel
theorem d_md_run_114 : decode b_md_run 114 = .ok (.if_icmp .ne 6, 3) := by decide +kernel
theorem d_md_run_117 : decode b_md_run 117 = .ok (.goto 101, 3) := by decide +kernel
theorem d_md_run_120 : decode b_md_run 120 = .ok (.aload_n 0, 1) := by decide +kernel
theorem d_md_run_121 : decode b_md_run 121 = .ok (.getfield 213, 3) := by decide +kernel
theorem d_md_run_124 : decode b_md_run 124 = .ok (.istore 8, 2) := by decide +kernel
theorem d_md_run_126 : decode b_md_run 126 = .ok (.aload_n 0, 1) := by decide +kernel
theorem d_md_run_127 : decode b_md_run 127 = .ok (.getfield 72, 3) := by decide +kernel
theorem d_md_run_130 : decode b_md_run 130 = .ok (.iload 8, 2) := by decide +kernel
theorem d_md_run_132 : decode b_md_run 132 = .ok (.iload_n 2, 1) := by decide +kernel
theorem d_md_run_133 : decode b_md_run 133 = .ok (.iastore, 1) := by decide +kernel
theorem d_md_run_134 : decode b_md_run 134 = .ok (.aload_n 0, 1) := by decide +kernel
theorem d_md_run_135 : decode b_md_run 135 = .ok (.getfield 75, 3) := by decide +kernel
theorem d_md_run_138 : decode b_md_run 138 = .ok (.iload 8, 2) := by decide +kernel
theorem d_md_run_140 : decode b_md_run 140 = .ok (.iload_n 3, 1) := by decide +kernel
theorem d_md_run_141 : decode b_md_run 141 = .ok (.iastore, 1) := by decide +kernel
theorem d_md_run_142 : decode b_md_run 142 = .ok (.aload_n 0, 1) := by decide +kernel
theorem d_md_run_143 : decode b_md_run 143 = .ok (.getfield 78, 3) := by decide +kernel
theorem d_md_run_146 : decode b_md_run 146 = .ok (.iload 8, 2) := by decide +kernel
theorem d_md_run_148 : decode b_md_run 148 = .ok (.aload_n 0, 1) := by decide +kernel
theorem d_md_run_149 : decode b_md_run 149 = .ok (.getfield 188, 3) := by decide +kernel
theorem d_md_run_152 : decode b_md_run 152 = .ok (.iastore, 1) := by decide +kernel
theorem d_md_run_153 : decode b_md_run 153 = .ok (.aload_n 0, 1) := by decide +kernel
theorem d_md_run_154 : decode b_md_run 154 = .ok (.getfield 81, 3) := by decide +kernel
theorem d_md_run_157 : decode b_md_run 157 = .ok (.iload 8, 2) := by decide +kernel
theorem d_md_run_159 : decode b_md_run 159 = .ok (.lload 6, 2) := by decide +kernel
theorem d_md_run_161 : decode b_md_run 161 = .ok (.lastore, 1) := by decide +kernel
theorem d_md_run_162 : decode b_md_run 162 = .ok (.aload_n 0, 1) := by decide +kernel
theorem d_md_run_163 : decode b_md_run 163 = .ok (.getfield 84, 3) := by decide +kernel
theorem d_md_run_166 : decode b_md_run 166 = .ok (.iload 8, 2) := by decide +kernel
theorem d_md_run_168 : decode b_md_run 168 = .ok (.lload 6, 2) := by decide +kernel
theorem d_md_run_170 : decode b_md_run 170 = .ok (.lconst 0, 1) := by decide +kernel
theorem d_md_run_171 : decode b_md_run 171 = .ok (.lcmp, 1) := by decide +kernel
theorem d_md_run_172 : decode b_md_run 172 = .ok (.ifCond .ge 8, 3) := by decide +kernel
theorem d_md_run_175 : decode b_md_run 175 = .ok (.lload 6, 2) := by decide +kernel
theorem d_md_run_177 : decode b_md_run 177 = .ok (.goto 4, 3) := by decide +kernel
theorem d_md_run_180 : decode b_md_run 180 = .ok (.lconst 0, 1) := by decide +kernel
theorem d_md_run_181 : decode b_md_run 181 = .ok (.lastore, 1) := by decide +kernel
theorem d_md_run_182 : decode b_md_run 182 = .ok (.lload 6, 2) := by decide +kernel
theorem d_md_run_184 : decode b_md_run 184 = .ok (.lconst 0, 1) := by decide +kernel
theorem d_md_run_185 : decode b_md_run 185 = .ok (.lcmp, 1) := by decide +kernel
theorem d_md_run_186 : decode b_md_run 186 = .ok (.ifCond .ge 14, 3) := by decide +kernel
theorem d_md_run_189 : decode b_md_run 189 = .ok (.aload_n 0, 1) := by decide +kernel
theorem d_md_run_190 : decode b_md_run 190 = .ok (.getfield 53, 3) := by decide +kernel
theorem d_md_run_193 : decode b_md_run 193 = .ok (.iload_n 2, 1) := by decide +kernel
theorem d_md_run_194 : decode b_md_run 194 = .ok (.dup2, 1) := by decide +kernel
theorem d_md_run_195 : decode b_md_run 195 = .ok (.laload, 1) := by decide +kernel
theorem d_md_run_196 : decode b_md_run 196 = .ok (.lload 6, 2) := by decide +kernel
theorem d_md_run_198 : decode b_md_run 198 = .ok (.lsub, 1) := by decide +kernel
theorem d_md_run_199 : decode b_md_run 199 = .ok (.lastore, 1) := by decide +kernel
theorem d_md_run_200 : decode b_md_run 200 = .ok (.aload_n 0, 1) := by decide +kernel
theorem d_md_run_201 : decode b_md_run 201 = .ok (.dup, 1) := by decide +kernel
theorem d_md_run_202 : decode b_md_run 202 = .ok (.getfield 213, 3) := by decide +kernel
theorem d_md_run_205 : decode b_md_run 205 = .ok (.iconst 1, 1) := by decide +kernel
theorem d_md_run_206 : decode b_md_run 206 = .ok (.iadd, 1) := by decide +kernel
theorem d_md_run_207 : decode b_md_run 207 = .ok (.putfield 213, 3) := by decide +kernel
theorem d_md_run_210 : decode b_md_run 210 = .ok (.iinc 1 1, 3) := by decide +kernel
theorem d_md_run_213 : decode b_md_run 213 = .ok (.aload_n 0, 1) := by decide +kernel
theorem d_md_run_214 : decode b_md_run 214 = .ok (.iload_n 2, 1) := by decide +kernel
theorem d_md_run_215 : decode b_md_run 215 = .ok (.invokevirtual 224, 3) := by decide +kernel
theorem d_md_run_218 : decode b_md_run 218 = .ok (.iinc 3 1, 3) := by decide +kernel
theorem d_md_run_221 : decode b_md_run 221 = .ok (.goto (-205), 3) := by decide +kernel
theorem d_md_run_224 : decode b_md_run 224 = .ok (.iinc 2 1, 3) := by decide +kernel
theorem d_md_run_227 : decode b_md_run 227 = .ok (.goto (-218), 3) := by decide +kernel
theorem d_md_run_230 : decode b_md_run 230 = .ok (.iload_n 1, 1) := by decide +kernel
theorem d_md_run_231 : decode b_md_run 231 = .ok (.ireturn, 1) := by decide +kernel
theorem d_md_pay_0 : decode b_md_pay 0 = .ok (.iload_n 1, 1) := by decide +kernel
theorem d_md_pay_1 : decode b_md_pay 1 = .ok (.i2l, 1) := by decide +kernel
theorem d_md_pay_2 : decode b_md_pay 2 = .ok (.lconst 0, 1) := by decide +kernel
theorem d_md_pay_3 : decode b_md_pay 3 = .ok (.ldc2_w 201, 3) := by decide +kernel
theorem d_md_pay_6 : decode b_md_pay 6 = .ok (.invokestatic 106, 3) := by decide +kernel
theorem d_md_pay_9 : decode b_md_pay 9 = .ok (.ifCond .eq 14, 3) := by decide +kernel
theorem d_md_pay_12 : decode b_md_pay 12 = .ok (.lload_n 2, 1) := by decide +kernel
theorem d_md_pay_13 : decode b_md_pay 13 = .ok (.lconst 1, 1) := by decide +kernel
theorem d_md_pay_14 : decode b_md_pay 14 = .ok (.ldc2_w 172, 3) := by decide +kernel
theorem d_md_pay_17 : decode b_md_pay 17 = .ok (.invokestatic 106, 3) := by decide +kernel
theorem d_md_pay_20 : decode b_md_pay 20 = .ok (.ifCond .ne 10, 3) := by decide +kernel
theorem d_md_pay_23 : decode b_md_pay 23 = .ok (.aload_n 0, 1) := by decide +kernel
theorem d_md_pay_24 : decode b_md_pay 24 = .ok (.iconst 1, 1) := by decide +kernel
theorem d_md_pay_25 : decode b_md_pay 25 = .ok (.invokevirtual 110, 3) := by decide +kernel
theorem d_md_pay_28 : decode b_md_pay 28 = .ok (.i2l, 1) := by decide +kernel
theorem d_md_pay_29 : decode b_md_pay 29 = .ok (.lreturn, 1) := by decide +kernel
theorem d_md_pay_30 : decode b_md_pay 30 = .ok (.aload_n 0, 1) := by decide +kernel
theorem d_md_pay_31 : decode b_md_pay 31 = .ok (.iconst 0, 1) := by decide +kernel
theorem d_md_pay_32 : decode b_md_pay 32 = .ok (.putfield 99, 3) := by decide +kernel
theorem d_md_pay_35 : decode b_md_pay 35 = .ok (.aload_n 0, 1) := by decide +kernel
theorem d_md_pay_36 : decode b_md_pay 36 = .ok (.getfield 53, 3) := by decide +kernel
theorem d_md_pay_39 : decode b_md_pay 39 = .ok (.iload_n 1, 1) := by decide +kernel
theorem d_md_pay_40 : decode b_md_pay 40 = .ok (.laload, 1) := by decide +kernel
theorem d_md_pay_41 : decode b_md_pay 41 = .ok (.lstore 4, 2) := by decide +kernel
theorem d_md_pay_43 : decode b_md_pay 43 = .ok (.aload_n 0, 1) := by decide +kernel
theorem d_md_pay_44 : decode b_md_pay 44 = .ok (.dup, 1) := by decide +kernel
theorem d_md_pay_45 : decode b_md_pay 45 = .ok (.getfield 227, 3) := by decide +kernel
theorem d_md_pay_48 : decode b_md_pay 48 = .ok (.lload_n 2, 1) := by decide +kernel
theorem d_md_pay_49 : decode b_md_pay 49 = .ok (.ladd, 1) := by decide +kernel
theorem d_md_pay_50 : decode b_md_pay 50 = .ok (.putfield 227, 3) := by decide +kernel
theorem d_md_pay_53 : decode b_md_pay 53 = .ok (.aload_n 0, 1) := by decide +kernel
theorem d_md_pay_54 : decode b_md_pay 54 = .ok (.getfield 53, 3) := by decide +kernel
theorem d_md_pay_57 : decode b_md_pay 57 = .ok (.iload_n 1, 1) := by decide +kernel
theorem d_md_pay_58 : decode b_md_pay 58 = .ok (.dup2, 1) := by decide +kernel
theorem d_md_pay_59 : decode b_md_pay 59 = .ok (.laload, 1) := by decide +kernel
theorem d_md_pay_60 : decode b_md_pay 60 = .ok (.lload_n 2, 1) := by decide +kernel
theorem d_md_pay_61 : decode b_md_pay 61 = .ok (.ladd, 1) := by decide +kernel
theorem d_md_pay_62 : decode b_md_pay 62 = .ok (.lastore, 1) := by decide +kernel
theorem d_md_pay_63 : decode b_md_pay 63 = .ok (.aload_n 0, 1) := by decide +kernel
theorem d_md_pay_64 : decode b_md_pay 64 = .ok (.iload_n 1, 1) := by decide +kernel
theorem d_md_pay_65 : decode b_md_pay 65 = .ok (.invokevirtual 224, 3) := by decide +kernel
theorem d_md_pay_68 : decode b_md_pay 68 = .ok (.aload_n 0, 1) := by decide +kernel
theorem d_md_pay_69 : decode b_md_pay 69 = .ok (.getfield 53, 3) := by decide +kernel
theorem d_md_pay_72 : decode b_md_pay 72 = .ok (.iload_n 1, 1) := by decide +kernel
theorem d_md_pay_73 : decode b_md_pay 73 = .ok (.laload, 1) := by decide +kernel
theorem d_md_pay_74 : decode b_md_pay 74 = .ok (.lload 4, 2) := by decide +kernel
theorem d_md_pay_76 : decode b_md_pay 76 = .ok (.lsub, 1) := by decide +kernel
theorem d_md_pay_77 : decode b_md_pay 77 = .ok (.lreturn, 1) := by decide +kernel
theorem d_md_plan_0 : decode b_md_plan 0 = .ok (.iload_n 1, 1) := by decide +kernel
theorem d_md_plan_1 : decode b_md_plan 1 = .ok (.i2l, 1) := by decide +kernel
theorem d_md_plan_2 : decode b_md_plan 2 = .ok (.lconst 0, 1) := by decide +kernel
theorem d_md_plan_3 : decode b_md_plan 3 = .ok (.ldc2_w 201, 3) := by decide +kernel
theorem d_md_plan_6 : decode b_md_plan 6 = .ok (.invokestatic 106, 3) := by decide +kernel
theorem d_md_plan_9 : decode b_md_plan 9 = .ok (.ifCond .eq 27, 3) := by decide +kernel
theorem d_md_plan_12 : decode b_md_plan 12 = .ok (.lload_n 2, 1) := by decide +kernel
theorem d_md_plan_13 : decode b_md_plan 13 = .ok (.lconst 1, 1) := by decide +kernel
theorem d_md_plan_14 : decode b_md_plan 14 = .ok (.ldc2_w 172, 3) := by decide +kernel
theorem d_md_plan_17 : decode b_md_plan 17 = .ok (.invokestatic 106, 3) := by decide +kernel
theorem d_md_plan_20 : decode b_md_plan 20 = .ok (.ifCond .eq 16, 3) := by decide +kernel
theorem d_md_plan_23 : decode b_md_plan 23 = .ok (.iload 4, 2) := by decide +kernel
theorem d_md_plan_25 : decode b_md_plan 25 = .ok (.i2l, 1) := by decide +kernel
theorem d_md_plan_26 : decode b_md_plan 26 = .ok (.lconst 1, 1) := by decide +kernel
theorem d_md_plan_27 : decode b_md_plan 27 = .ok (.ldc2_w 231, 3) := by decide +kernel
theorem d_md_plan_30 : decode b_md_plan 30 = .ok (.invokestatic 106, 3) := by decide +kernel
theorem d_md_plan_33 : decode b_md_plan 33 = .ok (.ifCond .ne 9, 3) := by decide +kernel
theorem d_md_plan_36 : decode b_md_plan 36 = .ok (.aload_n 0, 1) := by decide +kernel
theorem d_md_plan_37 : decode b_md_plan 37 = .ok (.iconst 1, 1) := by decide +kernel
theorem d_md_plan_38 : decode b_md_plan 38 = .ok (.invokevirtual 110, 3) := by decide +kernel
theorem d_md_plan_41 : decode b_md_plan 41 = .ok (.ireturn, 1) := by decide +kernel
theorem d_md_plan_42 : decode b_md_plan 42 = .ok (.aload_n 0, 1) := by decide +kernel
theorem d_md_plan_43 : decode b_md_plan 43 = .ok (.getfield 233, 3) := by decide +kernel
theorem d_md_plan_46 : decode b_md_plan 46 = .ok (.bipush 10, 2) := by decide +kernel
theorem d_md_plan_48 : decode b_md_plan 48 = .ok (.if_icmp .ne 9, 3) := by decide +kernel
theorem d_md_plan_51 : decode b_md_plan 51 = .ok (.aload_n 0, 1) := by decide +kernel
theorem d_md_plan_52 : decode b_md_plan 52 = .ok (.iconst 2, 1) := by decide +kernel
theorem d_md_plan_53 : decode b_md_plan 53 = .ok (.invokevirtual 110, 3) := by decide +kernel
theorem d_md_plan_56 : decode b_md_plan 56 = .ok (.ireturn, 1) := by decide +kernel
theorem d_md_plan_57 : decode b_md_plan 57 = .ok (.aload_n 0, 1) := by decide +kernel
theorem d_md_plan_58 : decode b_md_plan 58 = .ok (.iconst 0, 1) := by decide +kernel
theorem d_md_plan_59 : decode b_md_plan 59 = .ok (.putfield 99, 3) := by decide +kernel
theorem d_md_plan_62 : decode b_md_plan 62 = .ok (.aload_n 0, 1) := by decide +kernel
theorem d_md_plan_63 : decode b_md_plan 63 = .ok (.dup, 1) := by decide +kernel
theorem d_md_plan_64 : decode b_md_plan 64 = .ok (.getfield 227, 3) := by decide +kernel
theorem d_md_plan_67 : decode b_md_plan 67 = .ok (.lload_n 2, 1) := by decide +kernel
theorem d_md_plan_68 : decode b_md_plan 68 = .ok (.ladd, 1) := by decide +kernel
theorem d_md_plan_69 : decode b_md_plan 69 = .ok (.putfield 227, 3) := by decide +kernel
theorem d_md_plan_72 : decode b_md_plan 72 = .ok (.aload_n 0, 1) := by decide +kernel
theorem d_md_plan_73 : decode b_md_plan 73 = .ok (.getfield 87, 3) := by decide +kernel
theorem d_md_plan_76 : decode b_md_plan 76 = .ok (.aload_n 0, 1) := by decide +kernel
theorem d_md_plan_77 : decode b_md_plan 77 = .ok (.getfield 233, 3) := by decide +kernel
theorem d_md_plan_80 : decode b_md_plan 80 = .ok (.iload_n 1, 1) := by decide +kernel
theorem d_md_plan_81 : decode b_md_plan 81 = .ok (.iastore, 1) := by decide +kernel
theorem d_md_plan_82 : decode b_md_plan 82 = .ok (.aload_n 0, 1) := by decide +kernel
theorem d_md_plan_83 : decode b_md_plan 83 = .ok (.getfield 96, 3) := by decide +kernel
theorem d_md_plan_86 : decode b_md_plan 86 = .ok (.aload_n 0, 1) := by decide +kernel
theorem d_md_plan_87 : decode b_md_plan 87 = .ok (.getfield 233, 3) := by decide +kernel
theorem d_md_plan_90 : decode b_md_plan 90 = .ok (.lload_n 2, 1) := by decide +kernel
theorem d_md_plan_91 : decode b_md_plan 91 = .ok (.lastore, 1) := by decide +kernel
theorem d_md_plan_92 : decode b_md_plan 92 = .ok (.aload_n 0, 1) := by decide +kernel
theorem d_md_plan_93 : decode b_md_plan 93 = .ok (.getfield 90, 3) := by decide +kernel
theorem d_md_plan_96 : decode b_md_plan 96 = .ok (.aload_n 0, 1) := by decide +kernel
theorem d_md_plan_97 : decode b_md_plan 97 = .ok (.getfield 233, 3) := by decide +kernel
theorem d_md_plan_100 : decode b_md_plan 100 = .ok (.iload 4, 2) := by decide +kernel
theorem d_md_plan_102 : decode b_md_plan 102 = .ok (.iastore, 1) := by decide +kernel
theorem d_md_plan_103 : decode b_md_plan 103 = .ok (.aload_n 0, 1) := by decide +kernel
theorem d_md_plan_104 : decode b_md_plan 104 = .ok (.getfield 93, 3) := by decide +kernel
theorem d_md_plan_107 : decode b_md_plan 107 = .ok (.aload_n 0, 1) := by decide +kernel
theorem d_md_plan_108 : decode b_md_plan 108 = .ok (.getfield 233, 3) := by decide +kernel
theorem d_md_plan_111 : decode b_md_plan 111 = .ok (.aload_n 0, 1) := by decide +kernel
theorem d_md_plan_112 : decode b_md_plan 112 = .ok (.getfield 188, 3) := by decide +kernel
theorem d_md_plan_115 : decode b_md_plan 115 = .ok (.iastore, 1) := by decide +kernel
theorem d_md_plan_116 : decode b_md_plan 116 = .ok (.aload_n 0, 1) := by decide +kernel
theorem d_md_plan_117 : decode b_md_plan 117 = .ok (.dup, 1) := by decide +kernel
theorem d_md_plan_118 : decode b_md_plan 118 = .ok (.getfield 233, 3) := by decide +kernel
theorem d_md_plan_121 : decode b_md_plan 121 = .ok (.iconst 1, 1) := by decide +kernel
theorem d_md_plan_122 : decode b_md_plan 122 = .ok (.iadd, 1) := by decide +kernel
theorem d_md_plan_123 : decode b_md_plan 123 = .ok (.putfield 233, 3) := by decide +kernel
theorem d_md_plan_126 : decode b_md_plan 126 = .ok (.aload_n 0, 1) := by decide +kernel
theorem d_md_plan_127 : decode b_md_plan 127 = .ok (.getfield 233, 3) := by decide +kernel
theorem d_md_plan_130 : decode b_md_plan 130 = .ok (.ireturn, 1) := by decide +kernel
theorem d_md_earned_0 : decode b_md_earned 0 = .ok (.aload_n 0, 1) := by decide +kernel
theorem d_md_earned_1 : decode b_md_earned 1 = .ok (.getfield 188, 3) := by decide +kernel
theorem d_md_earned_4 : decode b_md_earned 4 = .ok (.aload_n 0, 1) := by decide +kernel
theorem d_md_earned_5 : decode b_md_earned 5 = .ok (.getfield 93, 3) := by decide +kernel
theorem d_md_earned_8 : decode b_md_earned 8 = .ok (.iload_n 1, 1) := by decide +kernel
theorem d_md_earned_9 : decode b_md_earned 9 = .ok (.iaload, 1) := by decide +kernel
theorem d_md_earned_10 : decode b_md_earned 10 = .ok (.isub, 1) := by decide +kernel
theorem d_md_earned_11 : decode b_md_earned 11 = .ok (.istore_n 2, 1) := by decide +kernel
theorem d_md_earned_12 : decode b_md_earned 12 = .ok (.iload_n 2, 1) := by decide +kernel
theorem d_md_earned_13 : decode b_md_earned 13 = .ok (.aload_n 0, 1) := by decide +kernel
theorem d_md_earned_14 : decode b_md_earned 14 = .ok (.getfield 90, 3) := by decide +kernel
theorem d_md_earned_17 : decode b_md_earned 17 = .ok (.iload_n 1, 1) := by decide +kernel
theorem d_md_earned_18 : decode b_md_earned 18 = .ok (.iaload, 1) := by decide +kernel
theorem d_md_earned_19 : decode b_md_earned 19 = .ok (.if_icmp .lt 12, 3) := by decide +kernel
theorem d_md_earned_22 : decode b_md_earned 22 = .ok (.aload_n 0, 1) := by decide +kernel
theorem d_md_earned_23 : decode b_md_earned 23 = .ok (.getfield 96, 3) := by decide +kernel
theorem d_md_earned_26 : decode b_md_earned 26 = .ok (.iload_n 1, 1) := by decide +kernel
theorem d_md_earned_27 : decode b_md_earned 27 = .ok (.laload, 1) := by decide +kernel
theorem d_md_earned_28 : decode b_md_earned 28 = .ok (.goto 20, 3) := by decide +kernel
theorem d_md_earned_31 : decode b_md_earned 31 = .ok (.aload_n 0, 1) := by decide +kernel
theorem d_md_earned_32 : decode b_md_earned 32 = .ok (.getfield 96, 3) := by decide +kernel
theorem d_md_earned_35 : decode b_md_earned 35 = .ok (.iload_n 1, 1) := by decide +kernel
theorem d_md_earned_36 : decode b_md_earned 36 = .ok (.laload, 1) := by decide +kernel
theorem d_md_earned_37 : decode b_md_earned 37 = .ok (.iload_n 2, 1) := by decide +kernel
theorem d_md_earned_38 : decode b_md_earned 38 = .ok (.i2l, 1) := by decide +kernel
theorem d_md_earned_39 : decode b_md_earned 39 = .ok (.lmul, 1) := by decide +kernel
theorem d_md_earned_40 : decode b_md_earned 40 = .ok (.aload_n 0, 1) := by decide +kernel
theorem d_md_earned_41 : decode b_md_earned 41 = .ok (.getfield 90, 3) := by decide +kernel
theorem d_md_earned_44 : decode b_md_earned 44 = .ok (.iload_n 1, 1) := by decide +kernel
theorem d_md_earned_45 : decode b_md_earned 45 = .ok (.iaload, 1) := by decide +kernel
theorem d_md_earned_46 : decode b_md_earned 46 = .ok (.i2l, 1) := by decide +kernel
theorem d_md_earned_47 : decode b_md_earned 47 = .ok (.ldiv, 1) := by decide +kernel
theorem d_md_earned_48 : decode b_md_earned 48 = .ok (.lreturn, 1) := by decide +kernel
theorem d_md_invoice_0 : decode b_md_invoice 0 = .ok (.iload_n 1, 1) := by decide +kernel
theorem d_md_invoice_1 : decode b_md_invoice 1 = .ok (.i2l, 1) := by decide +kernel
theorem d_md_invoice_2 : decode b_md_invoice 2 = .ok (.lconst 0, 1) := by decide +kernel
theorem d_md_invoice_3 : decode b_md_invoice 3 = .ok (.aload_n 0, 1) := by decide +kernel
theorem d_md_invoice_4 : decode b_md_invoice 4 = .ok (.getfield 213, 3) := by decide +kernel
theorem d_md_invoice_7 : decode b_md_invoice 7 = .ok (.iconst 1, 1) := by decide +kernel
theorem d_md_invoice_8 : decode b_md_invoice 8 = .ok (.isub, 1) := by decide +kernel
theorem d_md_invoice_9 : decode b_md_invoice 9 = .ok (.i2l, 1) := by decide +kernel
theorem d_md_invoice_10 : decode b_md_invoice 10 = .ok (.invokestatic 106, 3) := by decide +kernel
theorem d_md_invoice_13 : decode b_md_invoice 13 = .ok (.ifCond .ne 10, 3) := by decide +kernel
theorem d_md_invoice_16 : decode b_md_invoice 16 = .ok (.aload_n 0, 1) := by decide +kernel
theorem d_md_invoice_17 : decode b_md_invoice 17 = .ok (.iconst 1, 1) := by decide +kernel
theorem d_md_invoice_18 : decode b_md_invoice 18 = .ok (.invokevirtual 110, 3) := by decide +kernel
theorem d_md_invoice_21 : decode b_md_invoice 21 = .ok (.i2l, 1) := by decide +kernel
theorem d_md_invoice_22 : decode b_md_invoice 22 = .ok (.lreturn, 1) := by decide +kernel
theorem d_md_invoice_23 : decode b_md_invoice 23 = .ok (.aload_n 0, 1) := by decide +kernel
theorem d_md_invoice_24 : decode b_md_invoice 24 = .ok (.iconst 0, 1) := by decide +kernel
theorem d_md_invoice_25 : decode b_md_invoice 25 = .ok (.putfield 99, 3) := by decide +kernel
theorem d_md_invoice_28 : decode b_md_invoice 28 = .ok (.iload_n 2, 1) := by decide +kernel
theorem d_md_invoice_29 : decode b_md_invoice 29 = .ok (.tableswitch 84 0 5 #[39, 47, 55, 62, 70, 77], 39) := by decide +kernel
theorem d_md_invoice_68 : decode b_md_invoice 68 = .ok (.aload_n 0, 1) := by decide +kernel
theorem d_md_invoice_69 : decode b_md_invoice 69 = .ok (.getfield 72, 3) := by decide +kernel
theorem d_md_invoice_72 : decode b_md_invoice 72 = .ok (.iload_n 1, 1) := by decide +kernel
theorem d_md_invoice_73 : decode b_md_invoice 73 = .ok (.iaload, 1) := by decide +kernel
theorem d_md_invoice_74 : decode b_md_invoice 74 = .ok (.i2l, 1) := by decide +kernel
theorem d_md_invoice_75 : decode b_md_invoice 75 = .ok (.lreturn, 1) := by decide +kernel
theorem d_md_invoice_76 : decode b_md_invoice 76 = .ok (.aload_n 0, 1) := by decide +kernel
theorem d_md_invoice_77 : decode b_md_invoice 77 = .ok (.getfield 75, 3) := by decide +kernel
theorem d_md_invoice_80 : decode b_md_invoice 80 = .ok (.iload_n 1, 1) := by decide +kernel
theorem d_md_invoice_81 : decode b_md_invoice 81 = .ok (.iaload, 1) := by decide +kernel
theorem d_md_invoice_82 : decode b_md_invoice 82 = .ok (.i2l, 1) := by decide +kernel
theorem d_md_invoice_83 : decode b_md_invoice 83 = .ok (.lreturn, 1) := by decide +kernel
theorem d_md_invoice_84 : decode b_md_invoice 84 = .ok (.aload_n 0, 1) := by decide +kernel
theorem d_md_invoice_85 : decode b_md_invoice 85 = .ok (.getfield 81, 3) := by decide +kernel
theorem d_md_invoice_88 : decode b_md_invoice 88 = .ok (.iload_n 1, 1) := by decide +kernel
theorem d_md_invoice_89 : decode b_md_invoice 89 = .ok (.laload, 1) := by decide +kernel
theorem d_md_invoice_90 : decode b_md_invoice 90 = .ok (.lreturn, 1) := by decide +kernel
theorem d_md_invoice_91 : decode b_md_invoice 91 = .ok (.aload_n 0, 1) := by decide +kernel
theorem d_md_invoice_92 : decode b_md_invoice 92 = .ok (.getfield 78, 3) := by decide +kernel
theorem d_md_invoice_95 : decode b_md_invoice 95 = .ok (.iload_n 1, 1) := by decide +kernel
theorem d_md_invoice_96 : decode b_md_invoice 96 = .ok (.iaload, 1) := by decide +kernel
theorem d_md_invoice_97 : decode b_md_invoice 97 = .ok (.i2l, 1) := by decide +kernel
theorem d_md_invoice_98 : decode b_md_invoice 98 = .ok (.lreturn, 1) := by decide +kernel
theorem d_md_invoice_99 : decode b_md_invoice 99 = .ok (.aload_n 0, 1) := by decide +kernel
theorem d_md_invoice_100 : decode b_md_invoice 100 = .ok (.getfield 84, 3) := by decide +kernel
theorem d_md_invoice_103 : decode b_md_invoice 103 = .ok (.iload_n 1, 1) := by decide +kernel
theorem d_md_invoice_104 : decode b_md_invoice 104 = .ok (.laload, 1) := by decide +kernel
theorem d_md_invoice_105 : decode b_md_invoice 105 = .ok (.lreturn, 1) := by decide +kernel
theorem d_md_invoice_106 : decode b_md_invoice 106 = .ok (.aload_n 0, 1) := by decide +kernel
theorem d_md_invoice_107 : decode b_md_invoice 107 = .ok (.iload_n 1, 1) := by decide +kernel
theorem d_md_invoice_108 : decode b_md_invoice 108 = .ok (.invokevirtual 216, 3) := by decide +kernel
theorem d_md_invoice_111 : decode b_md_invoice 111 = .ok (.i2l, 1) := by decide +kernel
theorem d_md_invoice_112 : decode b_md_invoice 112 = .ok (.lreturn, 1) := by decide +kernel
theorem d_md_invoice_113 : decode b_md_invoice 113 = .ok (.aload_n 0, 1) := by decide +kernel
theorem d_md_invoice_114 : decode b_md_invoice 114 = .ok (.iconst 2, 1) := by decide +kernel
theorem d_md_invoice_115 : decode b_md_invoice 115 = .ok (.invokevirtual 110, 3) := by decide +kernel
theorem d_md_invoice_118 : decode b_md_invoice 118 = .ok (.i2l, 1) := by decide +kernel
theorem d_md_invoice_119 : decode b_md_invoice 119 = .ok (.lreturn, 1) := by decide +kernel
theorem d_md_open_0 : decode b_md_open 0 = .ok (.lconst 0, 1) := by decide +kernel
theorem d_md_open_1 : decode b_md_open 1 = .ok (.lstore_n 2, 1) := by decide +kernel
theorem d_md_open_2 : decode b_md_open 2 = .ok (.iconst 0, 1) := by decide +kernel
theorem d_md_open_3 : decode b_md_open 3 = .ok (.istore 4, 2) := by decide +kernel
theorem d_md_open_5 : decode b_md_open 5 = .ok (.iload 4, 2) := by decide +kernel
theorem d_md_open_7 : decode b_md_open 7 = .ok (.aload_n 0, 1) := by decide +kernel
theorem d_md_open_8 : decode b_md_open 8 = .ok (.getfield 213, 3) := by decide +kernel
theorem d_md_open_11 : decode b_md_open 11 = .ok (.if_icmp .ge 56, 3) := by decide +kernel
theorem d_md_open_14 : decode b_md_open 14 = .ok (.aload_n 0, 1) := by decide +kernel
theorem d_md_open_15 : decode b_md_open 15 = .ok (.getfield 72, 3) := by decide +kernel
theorem d_md_open_18 : decode b_md_open 18 = .ok (.iload 4, 2) := by decide +kernel
theorem d_md_open_20 : decode b_md_open 20 = .ok (.iaload, 1) := by decide +kernel
theorem d_md_open_21 : decode b_md_open 21 = .ok (.iload_n 1, 1) := by decide +kernel
theorem d_md_open_22 : decode b_md_open 22 = .ok (.if_icmp .ne 39, 3) := by decide +kernel
theorem d_md_open_25 : decode b_md_open 25 = .ok (.aload_n 0, 1) := by decide +kernel
theorem d_md_open_26 : decode b_md_open 26 = .ok (.getfield 81, 3) := by decide +kernel
theorem d_md_open_29 : decode b_md_open 29 = .ok (.iload 4, 2) := by decide +kernel
theorem d_md_open_31 : decode b_md_open 31 = .ok (.laload, 1) := by decide +kernel
theorem d_md_open_32 : decode b_md_open 32 = .ok (.aload_n 0, 1) := by decide +kernel
theorem d_md_open_33 : decode b_md_open 33 = .ok (.getfield 84, 3) := by decide +kernel
theorem d_md_open_36 : decode b_md_open 36 = .ok (.iload 4, 2) := by decide +kernel
theorem d_md_open_38 : decode b_md_open 38 = .ok (.laload, 1) := by decide +kernel
theorem d_md_open_39 : decode b_md_open 39 = .ok (.lcmp, 1) := by decide +kernel
theorem d_md_open_40 : decode b_md_open 40 = .ok (.ifCond .le 21, 3) := by decide +kernel
theorem d_md_open_43 : decode b_md_open 43 = .ok (.lload_n 2, 1) := by decide +kernel
theorem d_md_open_44 : decode b_md_open 44 = .ok (.aload_n 0, 1) := by decide +kernel
theorem d_md_open_45 : decode b_md_open 45 = .ok (.getfield 81, 3) := by decide +kernel
theorem d_md_open_48 : decode b_md_open 48 = .ok (.iload 4, 2) := by decide +kernel
theorem d_md_open_50 : decode b_md_open 50 = .ok (.laload, 1) := by decide +kernel
theorem d_md_open_51 : decode b_md_open 51 = .ok (.aload_n 0, 1) := by decide +kernel
theorem d_md_open_52 : decode b_md_open 52 = .ok (.getfield 84, 3) := by decide +kernel
theorem d_md_open_55 : decode b_md_open 55 = .ok (.iload 4, 2) := by decide +kernel
theorem d_md_open_57 : decode b_md_open 57 = .ok (.laload, 1) := by decide +kernel
theorem d_md_open_58 : decode b_md_open 58 = .ok (.lsub, 1) := by decide +kernel
theorem d_md_open_59 : decode b_md_open 59 = .ok (.ladd, 1) := by decide +kernel
theorem d_md_open_60 : decode b_md_open 60 = .ok (.lstore_n 2, 1) := by decide +kernel
theorem d_md_open_61 : decode b_md_open 61 = .ok (.iinc 4 1, 3) := by decide +kernel
theorem d_md_open_64 : decode b_md_open 64 = .ok (.goto (-59), 3) := by decide +kernel
theorem d_md_open_67 : decode b_md_open 67 = .ok (.lload_n 2, 1) := by decide +kernel
theorem d_md_open_68 : decode b_md_open 68 = .ok (.lreturn, 1) := by decide +kernel
theorem d_md_told_0 : decode b_md_told 0 = .ok (.iload_n 1, 1) := by decide +kernel
theorem d_md_told_1 : decode b_md_told 1 = .ok (.i2l, 1) := by decide +kernel
theorem d_md_told_2 : decode b_md_told 2 = .ok (.lconst 0, 1) := by decide +kernel
theorem d_md_told_3 : decode b_md_told 3 = .ok (.ldc2_w 201, 3) := by decide +kernel
theorem d_md_told_6 : decode b_md_told 6 = .ok (.invokestatic 106, 3) := by decide +kernel
theorem d_md_told_9 : decode b_md_told 9 = .ok (.ifCond .eq 15, 3) := by decide +kernel
theorem d_md_told_12 : decode b_md_told 12 = .ok (.iload_n 2, 1) := by decide +kernel
theorem d_md_told_13 : decode b_md_told 13 = .ok (.i2l, 1) := by decide +kernel
theorem d_md_told_14 : decode b_md_told 14 = .ok (.lconst 0, 1) := by decide +kernel
theorem d_md_told_15 : decode b_md_told 15 = .ok (.ldc2_w 236, 3) := by decide +kernel
theorem d_md_told_18 : decode b_md_told 18 = .ok (.invokestatic 106, 3) := by decide +kernel
theorem d_md_told_21 : decode b_md_told 21 = .ok (.ifCond .ne 10, 3) := by decide +kernel
theorem d_md_told_24 : decode b_md_told 24 = .ok (.aload_n 0, 1) := by decide +kernel
theorem d_md_told_25 : decode b_md_told 25 = .ok (.iconst 1, 1) := by decide +kernel
theorem d_md_told_26 : decode b_md_told 26 = .ok (.invokevirtual 110, 3) := by decide +kernel
theorem d_md_told_29 : decode b_md_told 29 = .ok (.i2l, 1) := by decide +kernel
theorem d_md_told_30 : decode b_md_told 30 = .ok (.lreturn, 1) := by decide +kernel
theorem d_md_told_31 : decode b_md_told 31 = .ok (.aload_n 0, 1) := by decide +kernel
theorem d_md_told_32 : decode b_md_told 32 = .ok (.iconst 0, 1) := by decide +kernel
theorem d_md_told_33 : decode b_md_told 33 = .ok (.putfield 99, 3) := by decide +kernel
theorem d_md_told_36 : decode b_md_told 36 = .ok (.iload_n 2, 1) := by decide +kernel
theorem d_md_told_37 : decode b_md_told 37 = .ok (.iconst 5, 1) := by decide +kernel
theorem d_md_told_38 : decode b_md_told 38 = .ok (.if_icmp .ge 67, 3) := by decide +kernel
theorem d_md_told_41 : decode b_md_told 41 = .ok (.iload_n 2, 1) := by decide +kernel
theorem d_md_told_42 : decode b_md_told 42 = .ok (.ifCond .ne 13, 3) := by decide +kernel
theorem d_md_told_45 : decode b_md_told 45 = .ok (.aload_n 0, 1) := by decide +kernel
theorem d_md_told_46 : decode b_md_told 46 = .ok (.getfield 44, 3) := by decide +kernel
theorem d_md_told_49 : decode b_md_told 49 = .ok (.iload_n 1, 1) := by decide +kernel
theorem d_md_told_50 : decode b_md_told 50 = .ok (.iaload, 1) := by decide +kernel
theorem d_md_told_51 : decode b_md_told 51 = .ok (.i2l, 1) := by decide +kernel
theorem d_md_told_52 : decode b_md_told 52 = .ok (.goto 52, 3) := by decide +kernel
theorem d_md_told_55 : decode b_md_told 55 = .ok (.iload_n 2, 1) := by decide +kernel
theorem d_md_told_56 : decode b_md_told 56 = .ok (.iconst 1, 1) := by decide +kernel
theorem d_md_told_57 : decode b_md_told 57 = .ok (.if_icmp .ne 13, 3) := by decide +kernel
theorem d_md_told_60 : decode b_md_told 60 = .ok (.aload_n 0, 1) := by decide +kernel
theorem d_md_told_61 : decode b_md_told 61 = .ok (.getfield 47, 3) := by decide +kernel
theorem d_md_told_64 : decode b_md_told 64 = .ok (.iload_n 1, 1) := by decide +kernel
theorem d_md_told_65 : decode b_md_told 65 = .ok (.iaload, 1) := by decide +kernel
theorem d_md_told_66 : decode b_md_told 66 = .ok (.i2l, 1) := by decide +kernel
theorem d_md_told_67 : decode b_md_told 67 = .ok (.goto 37, 3) := by decide +kernel
theorem d_md_told_70 : decode b_md_told 70 = .ok (.iload_n 2, 1) := by decide +kernel
theorem d_md_told_71 : decode b_md_told 71 = .ok (.iconst 2, 1) := by decide +kernel
theorem d_md_told_72 : decode b_md_told 72 = .ok (.if_icmp .ne 13, 3) := by decide +kernel
theorem d_md_told_75 : decode b_md_told 75 = .ok (.aload_n 0, 1) := by decide +kernel
theorem d_md_told_76 : decode b_md_told 76 = .ok (.getfield 50, 3) := by decide +kernel
theorem d_md_told_79 : decode b_md_told 79 = .ok (.iload_n 1, 1) := by decide +kernel
theorem d_md_told_80 : decode b_md_told 80 = .ok (.iaload, 1) := by decide +kernel
theorem d_md_told_81 : decode b_md_told 81 = .ok (.i2l, 1) := by decide +kernel
theorem d_md_told_82 : decode b_md_told 82 = .ok (.goto 22, 3) := by decide +kernel
theorem d_md_told_85 : decode b_md_told 85 = .ok (.iload_n 2, 1) := by decide +kernel
theorem d_md_told_86 : decode b_md_told 86 = .ok (.iconst 3, 1) := by decide +kernel
theorem d_md_told_87 : decode b_md_told 87 = .ok (.if_icmp .ne 12, 3) := by decide +kernel
theorem d_md_told_90 : decode b_md_told 90 = .ok (.aload_n 0, 1) := by decide +kernel
theorem d_md_told_91 : decode b_md_told 91 = .ok (.getfield 53, 3) := by decide +kernel
theorem d_md_told_94 : decode b_md_told 94 = .ok (.iload_n 1, 1) := by decide +kernel
theorem d_md_told_95 : decode b_md_told 95 = .ok (.laload, 1) := by decide +kernel
theorem d_md_told_96 : decode b_md_told 96 = .ok (.goto 8, 3) := by decide +kernel
theorem d_md_told_99 : decode b_md_told 99 = .ok (.aload_n 0, 1) := by decide +kernel
theorem d_md_told_100 : decode b_md_told 100 = .ok (.iload_n 1, 1) := by decide +kernel
theorem d_md_told_101 : decode b_md_told 101 = .ok (.invokevirtual 238, 3) := by decide +kernel
theorem d_md_told_104 : decode b_md_told 104 = .ok (.lreturn, 1) := by decide +kernel
theorem d_md_told_105 : decode b_md_told 105 = .ok (.lconst 0, 1) := by decide +kernel
theorem d_md_told_106 : decode b_md_told 106 = .ok (.lstore_n 3, 1) := by decide +kernel
theorem d_md_told_107 : decode b_md_told 107 = .ok (.iconst 0, 1) := by decide +kernel
theorem d_md_told_108 : decode b_md_told 108 = .ok (.istore 5, 2) := by decide +kernel
theorem d_md_told_110 : decode b_md_told 110 = .ok (.iload 5, 2) := by decide +kernel
theorem d_md_told_112 : decode b_md_told 112 = .ok (.aload_n 0, 1) := by decide +kernel
theorem d_md_told_113 : decode b_md_told 113 = .ok (.getfield 233, 3) := by decide +kernel
theorem d_md_told_116 : decode b_md_told 116 = .ok (.if_icmp .ge 52, 3) := by decide +kernel
theorem d_md_told_119 : decode b_md_told 119 = .ok (.aload_n 0, 1) := by decide +kernel
theorem d_md_told_120 : decode b_md_told 120 = .ok (.getfield 87, 3) := by decide +kernel
theorem d_md_told_123 : decode b_md_told 123 = .ok (.iload 5, 2) := by decide +kernel
theorem d_md_told_125 : decode b_md_told 125 = .ok (.iaload, 1) := by decide +kernel
theorem d_md_told_126 : decode b_md_told 126 = .ok (.iload_n 1, 1) := by decide +kernel
theorem d_md_told_127 : decode b_md_told 127 = .ok (.if_icmp .ne 35, 3) := by decide +kernel
theorem d_md_told_130 : decode b_md_told 130 = .ok (.lload_n 3, 1) := by decide +kernel
theorem d_md_told_131 : decode b_md_told 131 = .ok (.iload_n 2, 1) := by decide +kernel
theorem d_md_told_132 : decode b_md_told 132 = .ok (.bipush 6, 2) := by decide +kernel
theorem d_md_told_134 : decode b_md_told 134 = .ok (.if_icmp .ne 12, 3) := by decide +kernel
theorem d_md_told_137 : decode b_md_told 137 = .ok (.aload_n 0, 1) := by decide +kernel
theorem d_md_told_138 : decode b_md_told 138 = .ok (.iload 5, 2) := by decide +kernel
theorem d_md_told_140 : decode b_md_told 140 = .ok (.invokevirtual 242, 3) := by decide +kernel
theorem d_md_told_143 : decode b_md_told 143 = .ok (.goto 17, 3) := by decide +kernel
theorem d_md_told_146 : decode b_md_told 146 = .ok (.aload_n 0, 1) := by decide +kernel
theorem d_md_told_147 : decode b_md_told 147 = .ok (.getfield 96, 3) := by decide +kernel
theorem d_md_told_150 : decode b_md_told 150 = .ok (.iload 5, 2) := by decide +kernel
theorem d_md_told_152 : decode b_md_told 152 = .ok (.laload, 1) := by decide +kernel
theorem d_md_told_153 : decode b_md_told 153 = .ok (.aload_n 0, 1) := by decide +kernel
theorem d_md_told_154 : decode b_md_told 154 = .ok (.iload 5, 2) := by decide +kernel
theorem d_md_told_156 : decode b_md_told 156 = .ok (.invokevirtual 242, 3) := by decide +kernel
theorem d_md_told_159 : decode b_md_told 159 = .ok (.lsub, 1) := by decide +kernel
theorem d_md_told_160 : decode b_md_told 160 = .ok (.ladd, 1) := by decide +kernel
theorem d_md_told_161 : decode b_md_told 161 = .ok (.lstore_n 3, 1) := by decide +kernel
theorem d_md_told_162 : decode b_md_told 162 = .ok (.iinc 5 1, 3) := by decide +kernel
theorem d_md_told_165 : decode b_md_told 165 = .ok (.goto (-55), 3) := by decide +kernel
theorem d_md_told_168 : decode b_md_told 168 = .ok (.lload_n 3, 1) := by decide +kernel
theorem d_md_told_169 : decode b_md_told 169 = .ok (.lreturn, 1) := by decide +kernel
theorem d_md_books_0 : decode b_md_books 0 = .ok (.iload_n 1, 1) := by decide +kernel
theorem d_md_books_1 : decode b_md_books 1 = .ok (.i2l, 1) := by decide +kernel
theorem d_md_books_2 : decode b_md_books 2 = .ok (.lconst 0, 1) := by decide +kernel
theorem d_md_books_3 : decode b_md_books 3 = .ok (.ldc2_w 201, 3) := by decide +kernel
theorem d_md_books_6 : decode b_md_books 6 = .ok (.invokestatic 106, 3) := by decide +kernel
theorem d_md_books_9 : decode b_md_books 9 = .ok (.ifCond .ne 10, 3) := by decide +kernel
theorem d_md_books_12 : decode b_md_books 12 = .ok (.aload_n 0, 1) := by decide +kernel
theorem d_md_books_13 : decode b_md_books 13 = .ok (.iconst 1, 1) := by decide +kernel
theorem d_md_books_14 : decode b_md_books 14 = .ok (.invokevirtual 110, 3) := by decide +kernel
theorem d_md_books_17 : decode b_md_books 17 = .ok (.i2l, 1) := by decide +kernel
theorem d_md_books_18 : decode b_md_books 18 = .ok (.lreturn, 1) := by decide +kernel
theorem d_md_books_19 : decode b_md_books 19 = .ok (.aload_n 0, 1) := by decide +kernel
theorem d_md_books_20 : decode b_md_books 20 = .ok (.iconst 0, 1) := by decide +kernel
theorem d_md_books_21 : decode b_md_books 21 = .ok (.putfield 99, 3) := by decide +kernel
theorem d_md_books_24 : decode b_md_books 24 = .ok (.iload_n 1, 1) := by decide +kernel
theorem d_md_books_25 : decode b_md_books 25 = .ok (.ifCond .ne 10, 3) := by decide +kernel
theorem d_md_books_28 : decode b_md_books 28 = .ok (.aload_n 0, 1) := by decide +kernel
theorem d_md_books_29 : decode b_md_books 29 = .ok (.getfield 227, 3) := by decide +kernel
theorem d_md_books_32 : decode b_md_books 32 = .ok (.goto 4, 3) := by decide +kernel
theorem d_md_books_35 : decode b_md_books 35 = .ok (.lconst 0, 1) := by decide +kernel
theorem d_md_books_36 : decode b_md_books 36 = .ok (.lstore_n 2, 1) := by decide +kernel
theorem d_md_books_37 : decode b_md_books 37 = .ok (.iconst 0, 1) := by decide +kernel
theorem d_md_books_38 : decode b_md_books 38 = .ok (.istore 4, 2) := by decide +kernel
theorem d_md_books_40 : decode b_md_books 40 = .ok (.iload 4, 2) := by decide +kernel
theorem d_md_books_42 : decode b_md_books 42 = .ok (.iconst 5, 1) := by decide +kernel
theorem d_md_books_43 : decode b_md_books 43 = .ok (.if_icmp .ge 42, 3) := by decide +kernel
theorem d_md_books_46 : decode b_md_books 46 = .ok (.lload_n 2, 1) := by decide +kernel
theorem d_md_books_47 : decode b_md_books 47 = .ok (.iload_n 1, 1) := by decide +kernel
theorem d_md_books_48 : decode b_md_books 48 = .ok (.iconst 1, 1) := by decide +kernel
theorem d_md_books_49 : decode b_md_books 49 = .ok (.if_icmp .ne 12, 3) := by decide +kernel
theorem d_md_books_52 : decode b_md_books 52 = .ok (.aload_n 0, 1) := by decide +kernel
theorem d_md_books_53 : decode b_md_books 53 = .ok (.iload 4, 2) := by decide +kernel
theorem d_md_books_55 : decode b_md_books 55 = .ok (.invokevirtual 238, 3) := by decide +kernel
theorem d_md_books_58 : decode b_md_books 58 = .ok (.goto 19, 3) := by decide +kernel
theorem d_md_books_61 : decode b_md_books 61 = .ok (.iload_n 1, 1) := by decide +kernel
theorem d_md_books_62 : decode b_md_books 62 = .ok (.iconst 2, 1) := by decide +kernel
theorem d_md_books_63 : decode b_md_books 63 = .ok (.if_icmp .ne 13, 3) := by decide +kernel
theorem d_md_books_66 : decode b_md_books 66 = .ok (.aload_n 0, 1) := by decide +kernel
theorem d_md_books_67 : decode b_md_books 67 = .ok (.getfield 53, 3) := by decide +kernel
theorem d_md_books_70 : decode b_md_books 70 = .ok (.iload 4, 2) := by decide +kernel
theorem d_md_books_72 : decode b_md_books 72 = .ok (.laload, 1) := by decide +kernel
theorem d_md_books_73 : decode b_md_books 73 = .ok (.goto 4, 3) := by decide +kernel
theorem d_md_books_76 : decode b_md_books 76 = .ok (.lconst 0, 1) := by decide +kernel
theorem d_md_books_77 : decode b_md_books 77 = .ok (.ladd, 1) := by decide +kernel
theorem d_md_books_78 : decode b_md_books 78 = .ok (.lstore_n 2, 1) := by decide +kernel
theorem d_md_books_79 : decode b_md_books 79 = .ok (.iinc 4 1, 3) := by decide +kernel
theorem d_md_books_82 : decode b_md_books 82 = .ok (.goto (-42), 3) := by decide +kernel
theorem d_md_books_85 : decode b_md_books 85 = .ok (.iconst 0, 1) := by decide +kernel
theorem d_md_books_86 : decode b_md_books 86 = .ok (.istore 4, 2) := by decide +kernel
theorem d_md_books_88 : decode b_md_books 88 = .ok (.iload 4, 2) := by decide +kernel
theorem d_md_books_90 : decode b_md_books 90 = .ok (.aload_n 0, 1) := by decide +kernel
theorem d_md_books_91 : decode b_md_books 91 = .ok (.getfield 213, 3) := by decide +kernel
theorem d_md_books_94 : decode b_md_books 94 = .ok (.if_icmp .ge 24, 3) := by decide +kernel
theorem d_md_books_97 : decode b_md_books 97 = .ok (.iload_n 1, 1) := by decide +kernel
theorem d_md_books_98 : decode b_md_books 98 = .ok (.iconst 3, 1) := by decide +kernel
theorem d_md_books_99 : decode b_md_books 99 = .ok (.if_icmp .ne 19, 3) := by decide +kernel
theorem d_md_books_102 : decode b_md_books 102 = .ok (.lload_n 2, 1) := by decide +kernel
theorem d_md_books_103 : decode b_md_books 103 = .ok (.aload_n 0, 1) := by decide +kernel
theorem d_md_books_104 : decode b_md_books 104 = .ok (.getfield 81, 3) := by decide +kernel
theorem d_md_books_107 : decode b_md_books 107 = .ok (.iload 4, 2) := by decide +kernel
theorem d_md_books_109 : decode b_md_books 109 = .ok (.laload, 1) := by decide +kernel
theorem d_md_books_110 : decode b_md_books 110 = .ok (.ladd, 1) := by decide +kernel
theorem d_md_books_111 : decode b_md_books 111 = .ok (.lstore_n 2, 1) := by decide +kernel
theorem d_md_books_112 : decode b_md_books 112 = .ok (.iinc 4 1, 3) := by decide +kernel
theorem d_md_books_115 : decode b_md_books 115 = .ok (.goto (-27), 3) := by decide +kernel
theorem d_md_books_118 : decode b_md_books 118 = .ok (.iconst 0, 1) := by decide +kernel
theorem d_md_books_119 : decode b_md_books 119 = .ok (.istore 4, 2) := by decide +kernel
theorem d_md_books_121 : decode b_md_books 121 = .ok (.iload 4, 2) := by decide +kernel
theorem d_md_books_123 : decode b_md_books 123 = .ok (.aload_n 0, 1) := by decide +kernel
theorem d_md_books_124 : decode b_md_books 124 = .ok (.getfield 233, 3) := by decide +kernel
theorem d_md_books_127 : decode b_md_books 127 = .ok (.if_icmp .ge 49, 3) := by decide +kernel
theorem d_md_books_130 : decode b_md_books 130 = .ok (.lload_n 2, 1) := by decide +kernel
theorem d_md_books_131 : decode b_md_books 131 = .ok (.iload_n 1, 1) := by decide +kernel
theorem d_md_books_132 : decode b_md_books 132 = .ok (.iconst 3, 1) := by decide +kernel
theorem d_md_books_133 : decode b_md_books 133 = .ok (.if_icmp .ne 12, 3) := by decide +kernel
theorem d_md_books_136 : decode b_md_books 136 = .ok (.aload_n 0, 1) := by decide +kernel
theorem d_md_books_137 : decode b_md_books 137 = .ok (.iload 4, 2) := by decide +kernel
theorem d_md_books_139 : decode b_md_books 139 = .ok (.invokevirtual 242, 3) := by decide +kernel
theorem d_md_books_142 : decode b_md_books 142 = .ok (.goto 26, 3) := by decide +kernel
theorem d_md_books_145 : decode b_md_books 145 = .ok (.iload_n 1, 1) := by decide +kernel
theorem d_md_books_146 : decode b_md_books 146 = .ok (.iconst 4, 1) := by decide +kernel
theorem d_md_books_147 : decode b_md_books 147 = .ok (.if_icmp .ne 20, 3) := by decide +kernel
theorem d_md_books_150 : decode b_md_books 150 = .ok (.aload_n 0, 1) := by decide +kernel
theorem d_md_books_151 : decode b_md_books 151 = .ok (.getfield 96, 3) := by decide +kernel
theorem d_md_books_154 : decode b_md_books 154 = .ok (.iload 4, 2) := by decide +kernel
theorem d_md_books_156 : decode b_md_books 156 = .ok (.laload, 1) := by decide +kernel
theorem d_md_books_157 : decode b_md_books 157 = .ok (.aload_n 0, 1) := by decide +kernel
theorem d_md_books_158 : decode b_md_books 158 = .ok (.iload 4, 2) := by decide +kernel
theorem d_md_books_160 : decode b_md_books 160 = .ok (.invokevirtual 242, 3) := by decide +kernel
theorem d_md_books_163 : decode b_md_books 163 = .ok (.lsub, 1) := by decide +kernel
theorem d_md_books_164 : decode b_md_books 164 = .ok (.goto 4, 3) := by decide +kernel
theorem d_md_books_167 : decode b_md_books 167 = .ok (.lconst 0, 1) := by decide +kernel
theorem d_md_books_168 : decode b_md_books 168 = .ok (.ladd, 1) := by decide +kernel
theorem d_md_books_169 : decode b_md_books 169 = .ok (.lstore_n 2, 1) := by decide +kernel
theorem d_md_books_170 : decode b_md_books 170 = .ok (.iinc 4 1, 3) := by decide +kernel
theorem d_md_books_173 : decode b_md_books 173 = .ok (.goto (-52), 3) := by decide +kernel
theorem d_md_books_176 : decode b_md_books 176 = .ok (.lload_n 2, 1) := by decide +kernel
theorem d_md_books_177 : decode b_md_books 177 = .ok (.lreturn, 1) := by decide +kernel
theorem d_md_count_0 : decode b_md_count 0 = .ok (.aload_n 0, 1) := by decide +kernel
theorem d_md_count_1 : decode b_md_count 1 = .ok (.iconst 0, 1) := by decide +kernel
theorem d_md_count_2 : decode b_md_count 2 = .ok (.putfield 99, 3) := by decide +kernel
theorem d_md_count_5 : decode b_md_count 5 = .ok (.iload_n 1, 1) := by decide +kernel
theorem d_md_count_6 : decode b_md_count 6 = .ok (.tableswitch 59 0 4 #[34, 39, 44, 49, 54], 34) := by decide +kernel
theorem d_md_count_40 : decode b_md_count 40 = .ok (.aload_n 0, 1) := by decide +kernel
theorem d_md_count_41 : decode b_md_count 41 = .ok (.getfield 188, 3) := by decide +kernel
theorem d_md_count_44 : decode b_md_count 44 = .ok (.ireturn, 1) := by decide +kernel
theorem d_md_count_45 : decode b_md_count 45 = .ok (.aload_n 0, 1) := by decide +kernel
theorem d_md_count_46 : decode b_md_count 46 = .ok (.getfield 198, 3) := by decide +kernel
theorem d_md_count_49 : decode b_md_count 49 = .ok (.ireturn, 1) := by decide +kernel
theorem d_md_count_50 : decode b_md_count 50 = .ok (.aload_n 0, 1) := by decide +kernel
theorem d_md_count_51 : decode b_md_count 51 = .ok (.getfield 213, 3) := by decide +kernel
theorem d_md_count_54 : decode b_md_count 54 = .ok (.ireturn, 1) := by decide +kernel
theorem d_md_count_55 : decode b_md_count 55 = .ok (.aload_n 0, 1) := by decide +kernel
theorem d_md_count_56 : decode b_md_count 56 = .ok (.getfield 233, 3) := by decide +kernel
theorem d_md_count_59 : decode b_md_count 59 = .ok (.ireturn, 1) := by decide +kernel
theorem d_md_count_60 : decode b_md_count 60 = .ok (.aload_n 0, 1) := by decide +kernel
theorem d_md_count_61 : decode b_md_count 61 = .ok (.getfield 114, 3) := by decide +kernel
theorem d_md_count_64 : decode b_md_count 64 = .ok (.ireturn, 1) := by decide +kernel
theorem d_md_count_65 : decode b_md_count 65 = .ok (.aload_n 0, 1) := by decide +kernel
theorem d_md_count_66 : decode b_md_count 66 = .ok (.iconst 1, 1) := by decide +kernel
theorem d_md_count_67 : decode b_md_count 67 = .ok (.invokevirtual 110, 3) := by decide +kernel
theorem d_md_count_70 : decode b_md_count 70 = .ok (.ireturn, 1) := by decide +kernel
