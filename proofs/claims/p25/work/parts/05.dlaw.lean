theorem dL_low_0 : decode cL_low 0 = .ok (.iload_n 0, 1) := by decide +kernel
theorem dL_low_1 : decode cL_low 1 = .ok (.ldc 7, 2) := by decide +kernel
theorem dL_low_3 : decode cL_low 3 = .ok (.iand, 1) := by decide +kernel
theorem dL_low_4 : decode cL_low 4 = .ok (.iload_n 1, 1) := by decide +kernel
theorem dL_low_5 : decode cL_low 5 = .ok (.irem, 1) := by decide +kernel
theorem dL_low_6 : decode cL_low 6 = .ok (.ireturn, 1) := by decide +kernel
theorem dL_cell_0 : decode cL_cell 0 = .ok (.iload_n 1, 1) := by decide +kernel
theorem dL_cell_1 : decode cL_cell 1 = .ok (.aload_n 0, 1) := by decide +kernel
theorem dL_cell_2 : decode cL_cell 2 = .ok (.arraylength, 1) := by decide +kernel
theorem dL_cell_3 : decode cL_cell 3 = .ok (.if_icmp .ge 9, 3) := by decide +kernel
theorem dL_cell_6 : decode cL_cell 6 = .ok (.aload_n 0, 1) := by decide +kernel
theorem dL_cell_7 : decode cL_cell 7 = .ok (.iload_n 1, 1) := by decide +kernel
theorem dL_cell_8 : decode cL_cell 8 = .ok (.iaload, 1) := by decide +kernel
theorem dL_cell_9 : decode cL_cell 9 = .ok (.goto 11, 3) := by decide +kernel
theorem dL_cell_12 : decode cL_cell 12 = .ok (.ldc 8, 2) := by decide +kernel
theorem dL_cell_14 : decode cL_cell 14 = .ok (.iload_n 1, 1) := by decide +kernel
theorem dL_cell_15 : decode cL_cell 15 = .ok (.imul, 1) := by decide +kernel
theorem dL_cell_16 : decode cL_cell 16 = .ok (.sipush 977, 3) := by decide +kernel
theorem dL_cell_19 : decode cL_cell 19 = .ok (.iadd, 1) := by decide +kernel
theorem dL_cell_20 : decode cL_cell 20 = .ok (.ireturn, 1) := by decide +kernel
theorem dL_record_0 : decode cL_record 0 = .ok (.aload_n 0, 1) := by decide +kernel
theorem dL_record_1 : decode cL_record 1 = .ok (.iload_n 1, 1) := by decide +kernel
theorem dL_record_2 : decode cL_record 2 = .ok (.iload_n 2, 1) := by decide +kernel
theorem dL_record_3 : decode cL_record 3 = .ok (.lload_n 3, 1) := by decide +kernel
theorem dL_record_4 : decode cL_record 4 = .ok (.invokevirtual 9, 3) := by decide +kernel
theorem dL_record_7 : decode cL_record 7 = .ok (.ireturn, 1) := by decide +kernel
theorem dL_record_8 : decode cL_record 8 = .ok (.astore 5, 2) := by decide +kernel
theorem dL_record_10 : decode cL_record 10 = .ok (.bipush (-2), 2) := by decide +kernel
theorem dL_record_12 : decode cL_record 12 = .ok (.ireturn, 1) := by decide +kernel
theorem dL_strike_0 : decode cL_strike 0 = .ok (.aload_n 0, 1) := by decide +kernel
theorem dL_strike_1 : decode cL_strike 1 = .ok (.iload_n 1, 1) := by decide +kernel
theorem dL_strike_2 : decode cL_strike 2 = .ok (.invokevirtual 17, 3) := by decide +kernel
theorem dL_strike_5 : decode cL_strike 5 = .ok (.ireturn, 1) := by decide +kernel
theorem dL_strike_6 : decode cL_strike 6 = .ok (.astore_n 2, 1) := by decide +kernel
theorem dL_strike_7 : decode cL_strike 7 = .ok (.bipush (-2), 2) := by decide +kernel
theorem dL_strike_9 : decode cL_strike 9 = .ok (.ireturn, 1) := by decide +kernel
theorem dL_findings_0 : decode cL_findings 0 = .ok (.lconst 1, 1) := by decide +kernel
theorem dL_findings_1 : decode cL_findings 1 = .ok (.iload_n 0, 1) := by decide +kernel
theorem dL_findings_2 : decode cL_findings 2 = .ok (.bipush 50, 2) := by decide +kernel
theorem dL_findings_4 : decode cL_findings 4 = .ok (.invokestatic 21, 3) := by decide +kernel
theorem dL_findings_7 : decode cL_findings 7 = .ok (.lshl, 1) := by decide +kernel
theorem dL_findings_8 : decode cL_findings 8 = .ok (.lconst 1, 1) := by decide +kernel
theorem dL_findings_9 : decode cL_findings 9 = .ok (.iload_n 0, 1) := by decide +kernel
theorem dL_findings_10 : decode cL_findings 10 = .ok (.bipush 6, 2) := by decide +kernel
theorem dL_findings_12 : decode cL_findings 12 = .ok (.ishr, 1) := by decide +kernel
theorem dL_findings_13 : decode cL_findings 13 = .ok (.bipush 30, 2) := by decide +kernel
theorem dL_findings_15 : decode cL_findings 15 = .ok (.invokestatic 21, 3) := by decide +kernel
theorem dL_findings_18 : decode cL_findings 18 = .ok (.lshl, 1) := by decide +kernel
theorem dL_findings_19 : decode cL_findings 19 = .ok (.lor, 1) := by decide +kernel
theorem dL_findings_20 : decode cL_findings 20 = .ok (.iload_n 1, 1) := by decide +kernel
theorem dL_findings_21 : decode cL_findings 21 = .ok (.iconst 3, 1) := by decide +kernel
theorem dL_findings_22 : decode cL_findings 22 = .ok (.invokestatic 21, 3) := by decide +kernel
theorem dL_findings_25 : decode cL_findings 25 = .ok (.ifCond .ne 25, 3) := by decide +kernel
theorem dL_findings_28 : decode cL_findings 28 = .ok (.iload_n 1, 1) := by decide +kernel
theorem dL_findings_29 : decode cL_findings 29 = .ok (.iconst 2, 1) := by decide +kernel
theorem dL_findings_30 : decode cL_findings 30 = .ok (.ishr, 1) := by decide +kernel
theorem dL_findings_31 : decode cL_findings 31 = .ok (.bipush 64, 2) := by decide +kernel
theorem dL_findings_33 : decode cL_findings 33 = .ok (.invokestatic 21, 3) := by decide +kernel
theorem dL_findings_36 : decode cL_findings 36 = .ok (.i2l, 1) := by decide +kernel
theorem dL_findings_37 : decode cL_findings 37 = .ok (.iload_n 0, 1) := by decide +kernel
theorem dL_findings_38 : decode cL_findings 38 = .ok (.bipush 12, 2) := by decide +kernel
theorem dL_findings_40 : decode cL_findings 40 = .ok (.ishr, 1) := by decide +kernel
theorem dL_findings_41 : decode cL_findings 41 = .ok (.bipush 20, 2) := by decide +kernel
theorem dL_findings_43 : decode cL_findings 43 = .ok (.invokestatic 21, 3) := by decide +kernel
theorem dL_findings_46 : decode cL_findings 46 = .ok (.lshl, 1) := by decide +kernel
theorem dL_findings_47 : decode cL_findings 47 = .ok (.goto 4, 3) := by decide +kernel
theorem dL_findings_50 : decode cL_findings 50 = .ok (.lconst 0, 1) := by decide +kernel
theorem dL_findings_51 : decode cL_findings 51 = .ok (.lor, 1) := by decide +kernel
theorem dL_findings_52 : decode cL_findings 52 = .ok (.lreturn, 1) := by decide +kernel
theorem dL_holds_0 : decode cL_holds 0 = .ok (.iconst 0, 1) := by decide +kernel
theorem dL_holds_1 : decode cL_holds 1 = .ok (.istore_n 1, 1) := by decide +kernel
theorem dL_holds_2 : decode cL_holds 2 = .ok (.iconst 1, 1) := by decide +kernel
theorem dL_holds_3 : decode cL_holds 3 = .ok (.istore_n 2, 1) := by decide +kernel
theorem dL_holds_4 : decode cL_holds 4 = .ok (.iconst 0, 1) := by decide +kernel
theorem dL_holds_5 : decode cL_holds 5 = .ok (.istore_n 3, 1) := by decide +kernel
theorem dL_holds_6 : decode cL_holds 6 = .ok (.iload_n 3, 1) := by decide +kernel
theorem dL_holds_7 : decode cL_holds 7 = .ok (.iconst 4, 1) := by decide +kernel
theorem dL_holds_8 : decode cL_holds 8 = .ok (.if_icmp .ge 17, 3) := by decide +kernel
theorem dL_holds_11 : decode cL_holds 11 = .ok (.iload_n 1, 1) := by decide +kernel
theorem dL_holds_12 : decode cL_holds 12 = .ok (.aload_n 0, 1) := by decide +kernel
theorem dL_holds_13 : decode cL_holds 13 = .ok (.iload_n 3, 1) := by decide +kernel
theorem dL_holds_14 : decode cL_holds 14 = .ok (.invokevirtual 27, 3) := by decide +kernel
theorem dL_holds_17 : decode cL_holds 17 = .ok (.iadd, 1) := by decide +kernel
theorem dL_holds_18 : decode cL_holds 18 = .ok (.istore_n 1, 1) := by decide +kernel
theorem dL_holds_19 : decode cL_holds 19 = .ok (.iinc 3 1, 3) := by decide +kernel
theorem dL_holds_22 : decode cL_holds 22 = .ok (.goto (-16), 3) := by decide +kernel
theorem dL_holds_25 : decode cL_holds 25 = .ok (.iconst 0, 1) := by decide +kernel
theorem dL_holds_26 : decode cL_holds 26 = .ok (.istore_n 3, 1) := by decide +kernel
theorem dL_holds_27 : decode cL_holds 27 = .ok (.iconst 0, 1) := by decide +kernel
theorem dL_holds_28 : decode cL_holds 28 = .ok (.istore 4, 2) := by decide +kernel
theorem dL_holds_30 : decode cL_holds 30 = .ok (.iload 4, 2) := by decide +kernel
theorem dL_holds_32 : decode cL_holds 32 = .ok (.aload_n 0, 1) := by decide +kernel
theorem dL_holds_33 : decode cL_holds 33 = .ok (.invokevirtual 30, 3) := by decide +kernel
theorem dL_holds_36 : decode cL_holds 36 = .ok (.if_icmp .ge 170, 3) := by decide +kernel
theorem dL_holds_39 : decode cL_holds 39 = .ok (.iload_n 2, 1) := by decide +kernel
theorem dL_holds_40 : decode cL_holds 40 = .ok (.ifCond .eq 166, 3) := by decide +kernel
theorem dL_holds_43 : decode cL_holds 43 = .ok (.aload_n 0, 1) := by decide +kernel
theorem dL_holds_44 : decode cL_holds 44 = .ok (.iload 4, 2) := by decide +kernel
theorem dL_holds_46 : decode cL_holds 46 = .ok (.invokevirtual 34, 3) := by decide +kernel
theorem dL_holds_49 : decode cL_holds 49 = .ok (.istore 5, 2) := by decide +kernel
theorem dL_holds_51 : decode cL_holds 51 = .ok (.aload_n 0, 1) := by decide +kernel
theorem dL_holds_52 : decode cL_holds 52 = .ok (.iload 5, 2) := by decide +kernel
theorem dL_holds_54 : decode cL_holds 54 = .ok (.invokevirtual 37, 3) := by decide +kernel
theorem dL_holds_57 : decode cL_holds 57 = .ok (.istore 6, 2) := by decide +kernel
theorem dL_holds_59 : decode cL_holds 59 = .ok (.aload_n 0, 1) := by decide +kernel
theorem dL_holds_60 : decode cL_holds 60 = .ok (.iload 5, 2) := by decide +kernel
theorem dL_holds_62 : decode cL_holds 62 = .ok (.invokevirtual 40, 3) := by decide +kernel
theorem dL_holds_65 : decode cL_holds 65 = .ok (.istore 7, 2) := by decide +kernel
theorem dL_holds_67 : decode cL_holds 67 = .ok (.aload_n 0, 1) := by decide +kernel
theorem dL_holds_68 : decode cL_holds 68 = .ok (.iload 5, 2) := by decide +kernel
theorem dL_holds_70 : decode cL_holds 70 = .ok (.invokevirtual 43, 3) := by decide +kernel
theorem dL_holds_73 : decode cL_holds 73 = .ok (.istore 8, 2) := by decide +kernel
theorem dL_holds_75 : decode cL_holds 75 = .ok (.iload_n 3, 1) := by decide +kernel
theorem dL_holds_76 : decode cL_holds 76 = .ok (.iload 6, 2) := by decide +kernel
theorem dL_holds_78 : decode cL_holds 78 = .ok (.iconst 2, 1) := by decide +kernel
theorem dL_holds_79 : decode cL_holds 79 = .ok (.if_icmp .ge 7, 3) := by decide +kernel
theorem dL_holds_82 : decode cL_holds 82 = .ok (.iconst 1, 1) := by decide +kernel
theorem dL_holds_83 : decode cL_holds 83 = .ok (.goto 4, 3) := by decide +kernel
theorem dL_holds_86 : decode cL_holds 86 = .ok (.iconst 0, 1) := by decide +kernel
theorem dL_holds_87 : decode cL_holds 87 = .ok (.iadd, 1) := by decide +kernel
theorem dL_holds_88 : decode cL_holds 88 = .ok (.istore_n 3, 1) := by decide +kernel
theorem dL_holds_89 : decode cL_holds 89 = .ok (.iload 4, 2) := by decide +kernel
theorem dL_holds_91 : decode cL_holds 91 = .ok (.ifCond .eq 16, 3) := by decide +kernel
theorem dL_holds_94 : decode cL_holds 94 = .ok (.aload_n 0, 1) := by decide +kernel
theorem dL_holds_95 : decode cL_holds 95 = .ok (.iload 4, 2) := by decide +kernel
theorem dL_holds_97 : decode cL_holds 97 = .ok (.iconst 1, 1) := by decide +kernel
theorem dL_holds_98 : decode cL_holds 98 = .ok (.isub, 1) := by decide +kernel
theorem dL_holds_99 : decode cL_holds 99 = .ok (.invokevirtual 34, 3) := by decide +kernel
theorem dL_holds_102 : decode cL_holds 102 = .ok (.iload 5, 2) := by decide +kernel
theorem dL_holds_104 : decode cL_holds 104 = .ok (.if_icmp .ge 94, 3) := by decide +kernel
theorem dL_holds_107 : decode cL_holds 107 = .ok (.iload 6, 2) := by decide +kernel
theorem dL_holds_109 : decode cL_holds 109 = .ok (.ifCond .lt 89, 3) := by decide +kernel
theorem dL_holds_112 : decode cL_holds 112 = .ok (.iload 6, 2) := by decide +kernel
theorem dL_holds_114 : decode cL_holds 114 = .ok (.iconst 3, 1) := by decide +kernel
theorem dL_holds_115 : decode cL_holds 115 = .ok (.if_icmp .gt 83, 3) := by decide +kernel
theorem dL_holds_118 : decode cL_holds 118 = .ok (.iload 6, 2) := by decide +kernel
theorem dL_holds_120 : decode cL_holds 120 = .ok (.iconst 3, 1) := by decide +kernel
theorem dL_holds_121 : decode cL_holds 121 = .ok (.if_icmp .ne 7, 3) := by decide +kernel
theorem dL_holds_124 : decode cL_holds 124 = .ok (.iconst 1, 1) := by decide +kernel
theorem dL_holds_125 : decode cL_holds 125 = .ok (.goto 4, 3) := by decide +kernel
theorem dL_holds_128 : decode cL_holds 128 = .ok (.iconst 0, 1) := by decide +kernel
theorem dL_holds_129 : decode cL_holds 129 = .ok (.iload 7, 2) := by decide +kernel
theorem dL_holds_131 : decode cL_holds 131 = .ok (.iconst 3, 1) := by decide +kernel
theorem dL_holds_132 : decode cL_holds 132 = .ok (.if_icmp .ne 7, 3) := by decide +kernel
theorem dL_holds_135 : decode cL_holds 135 = .ok (.iconst 1, 1) := by decide +kernel
theorem dL_holds_136 : decode cL_holds 136 = .ok (.goto 4, 3) := by decide +kernel
theorem dL_holds_139 : decode cL_holds 139 = .ok (.iconst 0, 1) := by decide +kernel
theorem dL_holds_140 : decode cL_holds 140 = .ok (.if_icmp .ne 58, 3) := by decide +kernel
theorem dL_holds_143 : decode cL_holds 143 = .ok (.iload 8, 2) := by decide +kernel
theorem dL_holds_145 : decode cL_holds 145 = .ok (.ifCond .le 7, 3) := by decide +kernel
theorem dL_holds_148 : decode cL_holds 148 = .ok (.iconst 1, 1) := by decide +kernel
theorem dL_holds_149 : decode cL_holds 149 = .ok (.goto 4, 3) := by decide +kernel
theorem dL_holds_152 : decode cL_holds 152 = .ok (.iconst 0, 1) := by decide +kernel
theorem dL_holds_153 : decode cL_holds 153 = .ok (.iload 6, 2) := by decide +kernel
theorem dL_holds_155 : decode cL_holds 155 = .ok (.iconst 2, 1) := by decide +kernel
theorem dL_holds_156 : decode cL_holds 156 = .ok (.if_icmp .ge 7, 3) := by decide +kernel
theorem dL_holds_159 : decode cL_holds 159 = .ok (.iconst 1, 1) := by decide +kernel
theorem dL_holds_160 : decode cL_holds 160 = .ok (.goto 4, 3) := by decide +kernel
theorem dL_holds_163 : decode cL_holds 163 = .ok (.iconst 0, 1) := by decide +kernel
theorem dL_holds_164 : decode cL_holds 164 = .ok (.if_icmp .ne 34, 3) := by decide +kernel
theorem dL_holds_167 : decode cL_holds 167 = .ok (.aload_n 0, 1) := by decide +kernel
theorem dL_holds_168 : decode cL_holds 168 = .ok (.iload 5, 2) := by decide +kernel
theorem dL_holds_170 : decode cL_holds 170 = .ok (.invokevirtual 46, 3) := by decide +kernel
theorem dL_holds_173 : decode cL_holds 173 = .ok (.iload 8, 2) := by decide +kernel
theorem dL_holds_175 : decode cL_holds 175 = .ok (.if_icmp .gt 23, 3) := by decide +kernel
theorem dL_holds_178 : decode cL_holds 178 = .ok (.aload_n 0, 1) := by decide +kernel
theorem dL_holds_179 : decode cL_holds 179 = .ok (.iload 5, 2) := by decide +kernel
theorem dL_holds_181 : decode cL_holds 181 = .ok (.invokevirtual 46, 3) := by decide +kernel
theorem dL_holds_184 : decode cL_holds 184 = .ok (.ifCond .lt 14, 3) := by decide +kernel
theorem dL_holds_187 : decode cL_holds 187 = .ok (.iload 8, 2) := by decide +kernel
theorem dL_holds_189 : decode cL_holds 189 = .ok (.bipush 50, 2) := by decide +kernel
theorem dL_holds_191 : decode cL_holds 191 = .ok (.if_icmp .gt 7, 3) := by decide +kernel
theorem dL_holds_194 : decode cL_holds 194 = .ok (.iconst 1, 1) := by decide +kernel
theorem dL_holds_195 : decode cL_holds 195 = .ok (.goto 4, 3) := by decide +kernel
theorem dL_holds_198 : decode cL_holds 198 = .ok (.iconst 0, 1) := by decide +kernel
theorem dL_holds_199 : decode cL_holds 199 = .ok (.istore_n 2, 1) := by decide +kernel
theorem dL_holds_200 : decode cL_holds 200 = .ok (.iinc 4 1, 3) := by decide +kernel
theorem dL_holds_203 : decode cL_holds 203 = .ok (.goto (-173), 3) := by decide +kernel
theorem dL_holds_206 : decode cL_holds 206 = .ok (.iload_n 2, 1) := by decide +kernel
theorem dL_holds_207 : decode cL_holds 207 = .ok (.ifCond .eq 66, 3) := by decide +kernel
theorem dL_holds_210 : decode cL_holds 210 = .ok (.iload_n 1, 1) := by decide +kernel
theorem dL_holds_211 : decode cL_holds 211 = .ok (.aload_n 0, 1) := by decide +kernel
theorem dL_holds_212 : decode cL_holds 212 = .ok (.invokevirtual 30, 3) := by decide +kernel
theorem dL_holds_215 : decode cL_holds 215 = .ok (.if_icmp .ne 58, 3) := by decide +kernel
theorem dL_holds_218 : decode cL_holds 218 = .ok (.iload_n 3, 1) := by decide +kernel
theorem dL_holds_219 : decode cL_holds 219 = .ok (.aload_n 0, 1) := by decide +kernel
theorem dL_holds_220 : decode cL_holds 220 = .ok (.iconst 0, 1) := by decide +kernel
theorem dL_holds_221 : decode cL_holds 221 = .ok (.invokevirtual 27, 3) := by decide +kernel
theorem dL_holds_224 : decode cL_holds 224 = .ok (.aload_n 0, 1) := by decide +kernel
theorem dL_holds_225 : decode cL_holds 225 = .ok (.iconst 1, 1) := by decide +kernel
theorem dL_holds_226 : decode cL_holds 226 = .ok (.invokevirtual 27, 3) := by decide +kernel
theorem dL_holds_229 : decode cL_holds 229 = .ok (.iadd, 1) := by decide +kernel
theorem dL_holds_230 : decode cL_holds 230 = .ok (.if_icmp .ne 43, 3) := by decide +kernel
theorem dL_holds_233 : decode cL_holds 233 = .ok (.aload_n 0, 1) := by decide +kernel
theorem dL_holds_234 : decode cL_holds 234 = .ok (.invokevirtual 49, 3) := by decide +kernel
theorem dL_holds_237 : decode cL_holds 237 = .ok (.ifCond .lt 36, 3) := by decide +kernel
theorem dL_holds_240 : decode cL_holds 240 = .ok (.aload_n 0, 1) := by decide +kernel
theorem dL_holds_241 : decode cL_holds 241 = .ok (.invokevirtual 49, 3) := by decide +kernel
theorem dL_holds_244 : decode cL_holds 244 = .ok (.iconst 3, 1) := by decide +kernel
theorem dL_holds_245 : decode cL_holds 245 = .ok (.if_icmp .gt 28, 3) := by decide +kernel
theorem dL_holds_248 : decode cL_holds 248 = .ok (.aload_n 0, 1) := by decide +kernel
theorem dL_holds_249 : decode cL_holds 249 = .ok (.invokevirtual 30, 3) := by decide +kernel
theorem dL_holds_252 : decode cL_holds 252 = .ok (.ifCond .gt 17, 3) := by decide +kernel
theorem dL_holds_255 : decode cL_holds 255 = .ok (.aload_n 0, 1) := by decide +kernel
theorem dL_holds_256 : decode cL_holds 256 = .ok (.invokevirtual 49, 3) := by decide +kernel
theorem dL_holds_259 : decode cL_holds 259 = .ok (.ifCond .ne 14, 3) := by decide +kernel
theorem dL_holds_262 : decode cL_holds 262 = .ok (.aload_n 0, 1) := by decide +kernel
theorem dL_holds_263 : decode cL_holds 263 = .ok (.invokevirtual 52, 3) := by decide +kernel
theorem dL_holds_266 : decode cL_holds 266 = .ok (.ifCond .ne 7, 3) := by decide +kernel
theorem dL_holds_269 : decode cL_holds 269 = .ok (.iconst 1, 1) := by decide +kernel
theorem dL_holds_270 : decode cL_holds 270 = .ok (.goto 4, 3) := by decide +kernel
theorem dL_holds_273 : decode cL_holds 273 = .ok (.iconst 0, 1) := by decide +kernel
theorem dL_holds_274 : decode cL_holds 274 = .ok (.ireturn, 1) := by decide +kernel
theorem dL_again_0 : decode cL_again 0 = .ok (.aload_n 0, 1) := by decide +kernel
theorem dL_again_1 : decode cL_again 1 = .ok (.iload_n 1, 1) := by decide +kernel
theorem dL_again_2 : decode cL_again 2 = .ok (.invokevirtual 37, 3) := by decide +kernel
theorem dL_again_5 : decode cL_again 5 = .ok (.istore 5, 2) := by decide +kernel
theorem dL_again_7 : decode cL_again 7 = .ok (.aload_n 0, 1) := by decide +kernel
theorem dL_again_8 : decode cL_again 8 = .ok (.invokevirtual 49, 3) := by decide +kernel
theorem dL_again_11 : decode cL_again 11 = .ok (.istore 6, 2) := by decide +kernel
theorem dL_again_13 : decode cL_again 13 = .ok (.aload_n 0, 1) := by decide +kernel
theorem dL_again_14 : decode cL_again 14 = .ok (.invokevirtual 30, 3) := by decide +kernel
theorem dL_again_17 : decode cL_again 17 = .ok (.istore 7, 2) := by decide +kernel
theorem dL_again_19 : decode cL_again 19 = .ok (.aload_n 0, 1) := by decide +kernel
theorem dL_again_20 : decode cL_again 20 = .ok (.iload_n 1, 1) := by decide +kernel
theorem dL_again_21 : decode cL_again 21 = .ok (.lconst 0, 1) := by decide +kernel
theorem dL_again_22 : decode cL_again 22 = .ok (.invokevirtual 56, 3) := by decide +kernel
theorem dL_again_25 : decode cL_again 25 = .ok (.lload_n 3, 1) := by decide +kernel
theorem dL_again_26 : decode cL_again 26 = .ok (.lcmp, 1) := by decide +kernel
theorem dL_again_27 : decode cL_again 27 = .ok (.ifCond .ne 30, 3) := by decide +kernel
theorem dL_again_30 : decode cL_again 30 = .ok (.aload_n 0, 1) := by decide +kernel
theorem dL_again_31 : decode cL_again 31 = .ok (.iload_n 1, 1) := by decide +kernel
theorem dL_again_32 : decode cL_again 32 = .ok (.lload_n 3, 1) := by decide +kernel
theorem dL_again_33 : decode cL_again 33 = .ok (.invokevirtual 56, 3) := by decide +kernel
theorem dL_again_36 : decode cL_again 36 = .ok (.lconst 0, 1) := by decide +kernel
theorem dL_again_37 : decode cL_again 37 = .ok (.lcmp, 1) := by decide +kernel
theorem dL_again_38 : decode cL_again 38 = .ok (.ifCond .ne 19, 3) := by decide +kernel
theorem dL_again_41 : decode cL_again 41 = .ok (.aload_n 0, 1) := by decide +kernel
theorem dL_again_42 : decode cL_again 42 = .ok (.iload_n 1, 1) := by decide +kernel
theorem dL_again_43 : decode cL_again 43 = .ok (.invokevirtual 17, 3) := by decide +kernel
theorem dL_again_46 : decode cL_again 46 = .ok (.iload 7, 2) := by decide +kernel
theorem dL_again_48 : decode cL_again 48 = .ok (.iconst 1, 1) := by decide +kernel
theorem dL_again_49 : decode cL_again 49 = .ok (.isub, 1) := by decide +kernel
theorem dL_again_50 : decode cL_again 50 = .ok (.if_icmp .ne 7, 3) := by decide +kernel
theorem dL_again_53 : decode cL_again 53 = .ok (.iconst 1, 1) := by decide +kernel
theorem dL_again_54 : decode cL_again 54 = .ok (.goto 4, 3) := by decide +kernel
theorem dL_again_57 : decode cL_again 57 = .ok (.iconst 0, 1) := by decide +kernel
theorem dL_again_58 : decode cL_again 58 = .ok (.istore 8, 2) := by decide +kernel
theorem dL_again_60 : decode cL_again 60 = .ok (.iload 8, 2) := by decide +kernel
theorem dL_again_62 : decode cL_again 62 = .ok (.ifCond .eq 38, 3) := by decide +kernel
theorem dL_again_65 : decode cL_again 65 = .ok (.aload_n 0, 1) := by decide +kernel
theorem dL_again_66 : decode cL_again 66 = .ok (.iload_n 1, 1) := by decide +kernel
theorem dL_again_67 : decode cL_again 67 = .ok (.iload_n 2, 1) := by decide +kernel
theorem dL_again_68 : decode cL_again 68 = .ok (.lload_n 3, 1) := by decide +kernel
theorem dL_again_69 : decode cL_again 69 = .ok (.invokevirtual 9, 3) := by decide +kernel
theorem dL_again_72 : decode cL_again 72 = .ok (.iload 7, 2) := by decide +kernel
theorem dL_again_74 : decode cL_again 74 = .ok (.if_icmp .ne 26, 3) := by decide +kernel
theorem dL_again_77 : decode cL_again 77 = .ok (.aload_n 0, 1) := by decide +kernel
theorem dL_again_78 : decode cL_again 78 = .ok (.iload_n 1, 1) := by decide +kernel
theorem dL_again_79 : decode cL_again 79 = .ok (.invokevirtual 37, 3) := by decide +kernel
theorem dL_again_82 : decode cL_again 82 = .ok (.iload 5, 2) := by decide +kernel
theorem dL_again_84 : decode cL_again 84 = .ok (.if_icmp .ne 16, 3) := by decide +kernel
theorem dL_again_87 : decode cL_again 87 = .ok (.aload_n 0, 1) := by decide +kernel
theorem dL_again_88 : decode cL_again 88 = .ok (.invokevirtual 49, 3) := by decide +kernel
theorem dL_again_91 : decode cL_again 91 = .ok (.iload 6, 2) := by decide +kernel
theorem dL_again_93 : decode cL_again 93 = .ok (.if_icmp .ne 7, 3) := by decide +kernel
theorem dL_again_96 : decode cL_again 96 = .ok (.iconst 1, 1) := by decide +kernel
theorem dL_again_97 : decode cL_again 97 = .ok (.goto 4, 3) := by decide +kernel
theorem dL_again_100 : decode cL_again 100 = .ok (.iconst 0, 1) := by decide +kernel
theorem dL_again_101 : decode cL_again 101 = .ok (.ireturn, 1) := by decide +kernel
theorem dL_curves_0 : decode cL_curves 0 = .ok (.iconst 2, 1) := by decide +kernel
theorem dL_curves_1 : decode cL_curves 1 = .ok (.iload_n 1, 1) := by decide +kernel
theorem dL_curves_2 : decode cL_curves 2 = .ok (.bipush 13, 2) := by decide +kernel
theorem dL_curves_4 : decode cL_curves 4 = .ok (.invokestatic 21, 3) := by decide +kernel
theorem dL_curves_7 : decode cL_curves 7 = .ok (.iadd, 1) := by decide +kernel
theorem dL_curves_8 : decode cL_curves 8 = .ok (.istore_n 2, 1) := by decide +kernel
theorem dL_curves_9 : decode cL_curves 9 = .ok (.iconst 1, 1) := by decide +kernel
theorem dL_curves_10 : decode cL_curves 10 = .ok (.iload_n 1, 1) := by decide +kernel
theorem dL_curves_11 : decode cL_curves 11 = .ok (.iconst 4, 1) := by decide +kernel
theorem dL_curves_12 : decode cL_curves 12 = .ok (.ishr, 1) := by decide +kernel
theorem dL_curves_13 : decode cL_curves 13 = .ok (.iload_n 2, 1) := by decide +kernel
theorem dL_curves_14 : decode cL_curves 14 = .ok (.invokestatic 21, 3) := by decide +kernel
theorem dL_curves_17 : decode cL_curves 17 = .ok (.iadd, 1) := by decide +kernel
theorem dL_curves_18 : decode cL_curves 18 = .ok (.istore_n 3, 1) := by decide +kernel
theorem dL_curves_19 : decode cL_curves 19 = .ok (.iload_n 1, 1) := by decide +kernel
theorem dL_curves_20 : decode cL_curves 20 = .ok (.bipush 8, 2) := by decide +kernel
theorem dL_curves_22 : decode cL_curves 22 = .ok (.ishr, 1) := by decide +kernel
theorem dL_curves_23 : decode cL_curves 23 = .ok (.iload_n 2, 1) := by decide +kernel
theorem dL_curves_24 : decode cL_curves 24 = .ok (.iconst 1, 1) := by decide +kernel
theorem dL_curves_25 : decode cL_curves 25 = .ok (.iadd, 1) := by decide +kernel
theorem dL_curves_26 : decode cL_curves 26 = .ok (.invokestatic 21, 3) := by decide +kernel
theorem dL_curves_29 : decode cL_curves 29 = .ok (.istore 4, 2) := by decide +kernel
theorem dL_curves_31 : decode cL_curves 31 = .ok (.iload_n 1, 1) := by decide +kernel
theorem dL_curves_32 : decode cL_curves 32 = .ok (.bipush 12, 2) := by decide +kernel
theorem dL_curves_34 : decode cL_curves 34 = .ok (.ishr, 1) := by decide +kernel
theorem dL_curves_35 : decode cL_curves 35 = .ok (.bipush 6, 2) := by decide +kernel
theorem dL_curves_37 : decode cL_curves 37 = .ok (.invokestatic 21, 3) := by decide +kernel
theorem dL_curves_40 : decode cL_curves 40 = .ok (.istore 5, 2) := by decide +kernel
theorem dL_curves_42 : decode cL_curves 42 = .ok (.aload_n 0, 1) := by decide +kernel
theorem dL_curves_43 : decode cL_curves 43 = .ok (.iload_n 2, 1) := by decide +kernel
theorem dL_curves_44 : decode cL_curves 44 = .ok (.iload 4, 2) := by decide +kernel
theorem dL_curves_46 : decode cL_curves 46 = .ok (.iload_n 3, 1) := by decide +kernel
theorem dL_curves_47 : decode cL_curves 47 = .ok (.iload 5, 2) := by decide +kernel
theorem dL_curves_49 : decode cL_curves 49 = .ok (.invokevirtual 60, 3) := by decide +kernel
theorem dL_curves_52 : decode cL_curves 52 = .ok (.aload_n 0, 1) := by decide +kernel
theorem dL_curves_53 : decode cL_curves 53 = .ok (.iload_n 2, 1) := by decide +kernel
theorem dL_curves_54 : decode cL_curves 54 = .ok (.iload 4, 2) := by decide +kernel
theorem dL_curves_56 : decode cL_curves 56 = .ok (.iload_n 3, 1) := by decide +kernel
theorem dL_curves_57 : decode cL_curves 57 = .ok (.iload 5, 2) := by decide +kernel
theorem dL_curves_59 : decode cL_curves 59 = .ok (.invokevirtual 64, 3) := by decide +kernel
theorem dL_curves_62 : decode cL_curves 62 = .ok (.lcmp, 1) := by decide +kernel
theorem dL_curves_63 : decode cL_curves 63 = .ok (.ifCond .ne 37, 3) := by decide +kernel
theorem dL_curves_66 : decode cL_curves 66 = .ok (.aload_n 0, 1) := by decide +kernel
theorem dL_curves_67 : decode cL_curves 67 = .ok (.iload_n 2, 1) := by decide +kernel
theorem dL_curves_68 : decode cL_curves 68 = .ok (.iload 4, 2) := by decide +kernel
theorem dL_curves_70 : decode cL_curves 70 = .ok (.iload_n 3, 1) := by decide +kernel
theorem dL_curves_71 : decode cL_curves 71 = .ok (.iload_n 2, 1) := by decide +kernel
theorem dL_curves_72 : decode cL_curves 72 = .ok (.invokevirtual 60, 3) := by decide +kernel
theorem dL_curves_75 : decode cL_curves 75 = .ok (.aload_n 0, 1) := by decide +kernel
theorem dL_curves_76 : decode cL_curves 76 = .ok (.iload_n 2, 1) := by decide +kernel
theorem dL_curves_77 : decode cL_curves 77 = .ok (.iload_n 3, 1) := by decide +kernel
theorem dL_curves_78 : decode cL_curves 78 = .ok (.invokevirtual 67, 3) := by decide +kernel
theorem dL_curves_81 : decode cL_curves 81 = .ok (.lcmp, 1) := by decide +kernel
theorem dL_curves_82 : decode cL_curves 82 = .ok (.ifCond .ne 18, 3) := by decide +kernel
theorem dL_curves_85 : decode cL_curves 85 = .ok (.aload_n 0, 1) := by decide +kernel
theorem dL_curves_86 : decode cL_curves 86 = .ok (.iload_n 2, 1) := by decide +kernel
theorem dL_curves_87 : decode cL_curves 87 = .ok (.iload_n 2, 1) := by decide +kernel
theorem dL_curves_88 : decode cL_curves 88 = .ok (.invokevirtual 67, 3) := by decide +kernel
theorem dL_curves_91 : decode cL_curves 91 = .ok (.lconst 1, 1) := by decide +kernel
theorem dL_curves_92 : decode cL_curves 92 = .ok (.lcmp, 1) := by decide +kernel
theorem dL_curves_93 : decode cL_curves 93 = .ok (.ifCond .ne 7, 3) := by decide +kernel
theorem dL_curves_96 : decode cL_curves 96 = .ok (.iconst 1, 1) := by decide +kernel
theorem dL_curves_97 : decode cL_curves 97 = .ok (.goto 4, 3) := by decide +kernel
theorem dL_curves_100 : decode cL_curves 100 = .ok (.iconst 0, 1) := by decide +kernel
theorem dL_curves_101 : decode cL_curves 101 = .ok (.istore 6, 2) := by decide +kernel
theorem dL_curves_103 : decode cL_curves 103 = .ok (.bipush 15, 2) := by decide +kernel
theorem dL_curves_105 : decode cL_curves 105 = .ok (.iload_n 1, 1) := by decide +kernel
theorem dL_curves_106 : decode cL_curves 106 = .ok (.iconst 3, 1) := by decide +kernel
theorem dL_curves_107 : decode cL_curves 107 = .ok (.ishr, 1) := by decide +kernel
theorem dL_curves_108 : decode cL_curves 108 = .ok (.bipush 46, 2) := by decide +kernel
theorem dL_curves_110 : decode cL_curves 110 = .ok (.invokestatic 21, 3) := by decide +kernel
theorem dL_curves_113 : decode cL_curves 113 = .ok (.iadd, 1) := by decide +kernel
theorem dL_curves_114 : decode cL_curves 114 = .ok (.istore 7, 2) := by decide +kernel
theorem dL_curves_116 : decode cL_curves 116 = .ok (.iconst 1, 1) := by decide +kernel
theorem dL_curves_117 : decode cL_curves 117 = .ok (.iload_n 1, 1) := by decide +kernel
theorem dL_curves_118 : decode cL_curves 118 = .ok (.bipush 9, 2) := by decide +kernel
theorem dL_curves_120 : decode cL_curves 120 = .ok (.ishr, 1) := by decide +kernel
theorem dL_curves_121 : decode cL_curves 121 = .ok (.iload 7, 2) := by decide +kernel
theorem dL_curves_123 : decode cL_curves 123 = .ok (.iconst 1, 1) := by decide +kernel
theorem dL_curves_124 : decode cL_curves 124 = .ok (.isub, 1) := by decide +kernel
theorem dL_curves_125 : decode cL_curves 125 = .ok (.invokestatic 21, 3) := by decide +kernel
theorem dL_curves_128 : decode cL_curves 128 = .ok (.iadd, 1) := by decide +kernel
theorem dL_curves_129 : decode cL_curves 129 = .ok (.istore 8, 2) := by decide +kernel
theorem dL_curves_131 : decode cL_curves 131 = .ok (.iload 6, 2) := by decide +kernel
theorem dL_curves_133 : decode cL_curves 133 = .ok (.ifCond .eq 65, 3) := by decide +kernel
theorem dL_curves_136 : decode cL_curves 136 = .ok (.aload_n 0, 1) := by decide +kernel
theorem dL_curves_137 : decode cL_curves 137 = .ok (.iload 7, 2) := by decide +kernel
theorem dL_curves_139 : decode cL_curves 139 = .ok (.iload 8, 2) := by decide +kernel
theorem dL_curves_141 : decode cL_curves 141 = .ok (.invokevirtual 67, 3) := by decide +kernel
theorem dL_curves_144 : decode cL_curves 144 = .ok (.aload_n 0, 1) := by decide +kernel
theorem dL_curves_145 : decode cL_curves 145 = .ok (.iload 7, 2) := by decide +kernel
theorem dL_curves_147 : decode cL_curves 147 = .ok (.iload 7, 2) := by decide +kernel
theorem dL_curves_149 : decode cL_curves 149 = .ok (.iload 8, 2) := by decide +kernel
theorem dL_curves_151 : decode cL_curves 151 = .ok (.isub, 1) := by decide +kernel
theorem dL_curves_152 : decode cL_curves 152 = .ok (.ifCond .ne 8, 3) := by decide +kernel
theorem dL_curves_155 : decode cL_curves 155 = .ok (.iload 7, 2) := by decide +kernel
theorem dL_curves_157 : decode cL_curves 157 = .ok (.goto 8, 3) := by decide +kernel
theorem dL_curves_160 : decode cL_curves 160 = .ok (.iload 7, 2) := by decide +kernel
theorem dL_curves_162 : decode cL_curves 162 = .ok (.iload 8, 2) := by decide +kernel
theorem dL_curves_164 : decode cL_curves 164 = .ok (.isub, 1) := by decide +kernel
theorem dL_curves_165 : decode cL_curves 165 = .ok (.invokevirtual 67, 3) := by decide +kernel
theorem dL_curves_168 : decode cL_curves 168 = .ok (.lcmp, 1) := by decide +kernel
theorem dL_curves_169 : decode cL_curves 169 = .ok (.ifCond .ne 29, 3) := by decide +kernel
theorem dL_curves_172 : decode cL_curves 172 = .ok (.aload_n 0, 1) := by decide +kernel
theorem dL_curves_173 : decode cL_curves 173 = .ok (.iload 7, 2) := by decide +kernel
theorem dL_curves_175 : decode cL_curves 175 = .ok (.iconst 0, 1) := by decide +kernel
theorem dL_curves_176 : decode cL_curves 176 = .ok (.iload 8, 2) := by decide +kernel
theorem dL_curves_178 : decode cL_curves 178 = .ok (.iconst 0, 1) := by decide +kernel
theorem dL_curves_179 : decode cL_curves 179 = .ok (.invokevirtual 60, 3) := by decide +kernel
theorem dL_curves_182 : decode cL_curves 182 = .ok (.aload_n 0, 1) := by decide +kernel
theorem dL_curves_183 : decode cL_curves 183 = .ok (.iload 7, 2) := by decide +kernel
theorem dL_curves_185 : decode cL_curves 185 = .ok (.iload 8, 2) := by decide +kernel
theorem dL_curves_187 : decode cL_curves 187 = .ok (.invokevirtual 67, 3) := by decide +kernel
theorem dL_curves_190 : decode cL_curves 190 = .ok (.lcmp, 1) := by decide +kernel
theorem dL_curves_191 : decode cL_curves 191 = .ok (.ifCond .ne 7, 3) := by decide +kernel
theorem dL_curves_194 : decode cL_curves 194 = .ok (.iconst 1, 1) := by decide +kernel
theorem dL_curves_195 : decode cL_curves 195 = .ok (.goto 4, 3) := by decide +kernel
theorem dL_curves_198 : decode cL_curves 198 = .ok (.iconst 0, 1) := by decide +kernel
theorem dL_curves_199 : decode cL_curves 199 = .ok (.istore 6, 2) := by decide +kernel
theorem dL_curves_201 : decode cL_curves 201 = .ok (.iload 6, 2) := by decide +kernel
theorem dL_curves_203 : decode cL_curves 203 = .ok (.ifCond .eq 59, 3) := by decide +kernel
theorem dL_curves_206 : decode cL_curves 206 = .ok (.iload 8, 2) := by decide +kernel
theorem dL_curves_208 : decode cL_curves 208 = .ok (.iconst 2, 1) := by decide +kernel
theorem dL_curves_209 : decode cL_curves 209 = .ok (.if_icmp .lt 49, 3) := by decide +kernel
theorem dL_curves_212 : decode cL_curves 212 = .ok (.aload_n 0, 1) := by decide +kernel
theorem dL_curves_213 : decode cL_curves 213 = .ok (.iload 7, 2) := by decide +kernel
theorem dL_curves_215 : decode cL_curves 215 = .ok (.iload 8, 2) := by decide +kernel
theorem dL_curves_217 : decode cL_curves 217 = .ok (.invokevirtual 67, 3) := by decide +kernel
theorem dL_curves_220 : decode cL_curves 220 = .ok (.aload_n 0, 1) := by decide +kernel
theorem dL_curves_221 : decode cL_curves 221 = .ok (.iload 7, 2) := by decide +kernel
theorem dL_curves_223 : decode cL_curves 223 = .ok (.iconst 1, 1) := by decide +kernel
theorem dL_curves_224 : decode cL_curves 224 = .ok (.isub, 1) := by decide +kernel
theorem dL_curves_225 : decode cL_curves 225 = .ok (.iload 8, 2) := by decide +kernel
theorem dL_curves_227 : decode cL_curves 227 = .ok (.iconst 1, 1) := by decide +kernel
theorem dL_curves_228 : decode cL_curves 228 = .ok (.isub, 1) := by decide +kernel
theorem dL_curves_229 : decode cL_curves 229 = .ok (.invokevirtual 67, 3) := by decide +kernel
theorem dL_curves_232 : decode cL_curves 232 = .ok (.iload 8, 2) := by decide +kernel
theorem dL_curves_234 : decode cL_curves 234 = .ok (.iload 7, 2) := by decide +kernel
theorem dL_curves_236 : decode cL_curves 236 = .ok (.if_icmp .ge 16, 3) := by decide +kernel
theorem dL_curves_239 : decode cL_curves 239 = .ok (.aload_n 0, 1) := by decide +kernel
theorem dL_curves_240 : decode cL_curves 240 = .ok (.iload 7, 2) := by decide +kernel
theorem dL_curves_242 : decode cL_curves 242 = .ok (.iconst 1, 1) := by decide +kernel
theorem dL_curves_243 : decode cL_curves 243 = .ok (.isub, 1) := by decide +kernel
theorem dL_curves_244 : decode cL_curves 244 = .ok (.iload 8, 2) := by decide +kernel
theorem dL_curves_246 : decode cL_curves 246 = .ok (.invokevirtual 67, 3) := by decide +kernel
theorem dL_curves_249 : decode cL_curves 249 = .ok (.goto 4, 3) := by decide +kernel
theorem dL_curves_252 : decode cL_curves 252 = .ok (.lconst 0, 1) := by decide +kernel
theorem dL_curves_253 : decode cL_curves 253 = .ok (.ladd, 1) := by decide +kernel
theorem dL_curves_254 : decode cL_curves 254 = .ok (.lcmp, 1) := by decide +kernel
theorem dL_curves_255 : decode cL_curves 255 = .ok (.ifCond .ne 7, 3) := by decide +kernel
theorem dL_curves_258 : decode cL_curves 258 = .ok (.iconst 1, 1) := by decide +kernel
theorem dL_curves_259 : decode cL_curves 259 = .ok (.goto 4, 3) := by decide +kernel
theorem dL_curves_262 : decode cL_curves 262 = .ok (.iconst 0, 1) := by decide +kernel
theorem dL_curves_263 : decode cL_curves 263 = .ok (.ireturn, 1) := by decide +kernel
