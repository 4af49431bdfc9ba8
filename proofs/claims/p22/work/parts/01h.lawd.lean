theorem dL_call_0 : decode cL_call 0 = .ok (.iload_n 1, 1) := by decide +kernel
theorem dL_call_1 : decode cL_call 1 = .ok (.ifCond .ne 11, 3) := by decide +kernel
theorem dL_call_4 : decode cL_call 4 = .ok (.aload_n 0, 1) := by decide +kernel
theorem dL_call_5 : decode cL_call 5 = .ok (.iload_n 2, 1) := by decide +kernel
theorem dL_call_6 : decode cL_call 6 = .ok (.invokevirtual 7, 3) := by decide +kernel
theorem dL_call_9 : decode cL_call 9 = .ok (.goto 107, 3) := by decide +kernel
theorem dL_call_12 : decode cL_call 12 = .ok (.iload_n 1, 1) := by decide +kernel
theorem dL_call_13 : decode cL_call 13 = .ok (.iconst 1, 1) := by decide +kernel
theorem dL_call_14 : decode cL_call 14 = .ok (.if_icmp .ne 14, 3) := by decide +kernel
theorem dL_call_17 : decode cL_call 17 = .ok (.aload_n 0, 1) := by decide +kernel
theorem dL_call_18 : decode cL_call 18 = .ok (.iload_n 2, 1) := by decide +kernel
theorem dL_call_19 : decode cL_call 19 = .ok (.iload_n 3, 1) := by decide +kernel
theorem dL_call_20 : decode cL_call 20 = .ok (.iload 4, 2) := by decide +kernel
theorem dL_call_22 : decode cL_call 22 = .ok (.invokevirtual 13, 3) := by decide +kernel
theorem dL_call_25 : decode cL_call 25 = .ok (.goto 91, 3) := by decide +kernel
theorem dL_call_28 : decode cL_call 28 = .ok (.iload_n 1, 1) := by decide +kernel
theorem dL_call_29 : decode cL_call 29 = .ok (.iconst 2, 1) := by decide +kernel
theorem dL_call_30 : decode cL_call 30 = .ok (.if_icmp .ne 14, 3) := by decide +kernel
theorem dL_call_33 : decode cL_call 33 = .ok (.aload_n 0, 1) := by decide +kernel
theorem dL_call_34 : decode cL_call 34 = .ok (.iload_n 2, 1) := by decide +kernel
theorem dL_call_35 : decode cL_call 35 = .ok (.iload_n 3, 1) := by decide +kernel
theorem dL_call_36 : decode cL_call 36 = .ok (.iload 4, 2) := by decide +kernel
theorem dL_call_38 : decode cL_call 38 = .ok (.invokevirtual 17, 3) := by decide +kernel
theorem dL_call_41 : decode cL_call 41 = .ok (.goto 75, 3) := by decide +kernel
theorem dL_call_44 : decode cL_call 44 = .ok (.iload_n 1, 1) := by decide +kernel
theorem dL_call_45 : decode cL_call 45 = .ok (.iconst 3, 1) := by decide +kernel
theorem dL_call_46 : decode cL_call 46 = .ok (.if_icmp .ne 12, 3) := by decide +kernel
theorem dL_call_49 : decode cL_call 49 = .ok (.aload_n 0, 1) := by decide +kernel
theorem dL_call_50 : decode cL_call 50 = .ok (.iload_n 2, 1) := by decide +kernel
theorem dL_call_51 : decode cL_call 51 = .ok (.iload_n 3, 1) := by decide +kernel
theorem dL_call_52 : decode cL_call 52 = .ok (.invokevirtual 20, 3) := by decide +kernel
theorem dL_call_55 : decode cL_call 55 = .ok (.goto 61, 3) := by decide +kernel
theorem dL_call_58 : decode cL_call 58 = .ok (.iload_n 1, 1) := by decide +kernel
theorem dL_call_59 : decode cL_call 59 = .ok (.iconst 4, 1) := by decide +kernel
theorem dL_call_60 : decode cL_call 60 = .ok (.if_icmp .ne 12, 3) := by decide +kernel
theorem dL_call_63 : decode cL_call 63 = .ok (.aload_n 0, 1) := by decide +kernel
theorem dL_call_64 : decode cL_call 64 = .ok (.iload_n 2, 1) := by decide +kernel
theorem dL_call_65 : decode cL_call 65 = .ok (.iload_n 3, 1) := by decide +kernel
theorem dL_call_66 : decode cL_call 66 = .ok (.invokevirtual 24, 3) := by decide +kernel
theorem dL_call_69 : decode cL_call 69 = .ok (.goto 47, 3) := by decide +kernel
theorem dL_call_72 : decode cL_call 72 = .ok (.iload_n 1, 1) := by decide +kernel
theorem dL_call_73 : decode cL_call 73 = .ok (.iconst 5, 1) := by decide +kernel
theorem dL_call_74 : decode cL_call 74 = .ok (.if_icmp .ne 19, 3) := by decide +kernel
theorem dL_call_77 : decode cL_call 77 = .ok (.aload_n 0, 1) := by decide +kernel
theorem dL_call_78 : decode cL_call 78 = .ok (.iload_n 2, 1) := by decide +kernel
theorem dL_call_79 : decode cL_call 79 = .ok (.invokevirtual 27, 3) := by decide +kernel
theorem dL_call_82 : decode cL_call 82 = .ok (.ifCond .eq 7, 3) := by decide +kernel
theorem dL_call_85 : decode cL_call 85 = .ok (.iconst 1, 1) := by decide +kernel
theorem dL_call_86 : decode cL_call 86 = .ok (.goto 30, 3) := by decide +kernel
theorem dL_call_89 : decode cL_call 89 = .ok (.iconst 0, 1) := by decide +kernel
theorem dL_call_90 : decode cL_call 90 = .ok (.goto 26, 3) := by decide +kernel
theorem dL_call_93 : decode cL_call 93 = .ok (.iload_n 1, 1) := by decide +kernel
theorem dL_call_94 : decode cL_call 94 = .ok (.bipush 6, 2) := by decide +kernel
theorem dL_call_96 : decode cL_call 96 = .ok (.if_icmp .ne 14, 3) := by decide +kernel
theorem dL_call_99 : decode cL_call 99 = .ok (.aload_n 0, 1) := by decide +kernel
theorem dL_call_100 : decode cL_call 100 = .ok (.iload_n 2, 1) := by decide +kernel
theorem dL_call_101 : decode cL_call 101 = .ok (.iload_n 3, 1) := by decide +kernel
theorem dL_call_102 : decode cL_call 102 = .ok (.iload 4, 2) := by decide +kernel
theorem dL_call_104 : decode cL_call 104 = .ok (.invokevirtual 31, 3) := by decide +kernel
theorem dL_call_107 : decode cL_call 107 = .ok (.goto 9, 3) := by decide +kernel
theorem dL_call_110 : decode cL_call 110 = .ok (.aload_n 0, 1) := by decide +kernel
theorem dL_call_111 : decode cL_call 111 = .ok (.iload_n 2, 1) := by decide +kernel
theorem dL_call_112 : decode cL_call 112 = .ok (.iload_n 3, 1) := by decide +kernel
theorem dL_call_113 : decode cL_call 113 = .ok (.invokevirtual 34, 3) := by decide +kernel
theorem dL_call_116 : decode cL_call 116 = .ok (.ireturn, 1) := by decide +kernel
theorem dL_ask_0 : decode cL_ask 0 = .ok (.aload_n 0, 1) := by decide +kernel
theorem dL_ask_1 : decode cL_ask 1 = .ok (.iload_n 1, 1) := by decide +kernel
theorem dL_ask_2 : decode cL_ask 2 = .ok (.iload_n 2, 1) := by decide +kernel
theorem dL_ask_3 : decode cL_ask 3 = .ok (.iload_n 3, 1) := by decide +kernel
theorem dL_ask_4 : decode cL_ask 4 = .ok (.iload 4, 2) := by decide +kernel
theorem dL_ask_6 : decode cL_ask 6 = .ok (.invokestatic 37, 3) := by decide +kernel
theorem dL_ask_9 : decode cL_ask 9 = .ok (.ireturn, 1) := by decide +kernel
theorem dL_ask_10 : decode cL_ask 10 = .ok (.astore 5, 2) := by decide +kernel
theorem dL_ask_12 : decode cL_ask 12 = .ok (.sipush (-1011), 3) := by decide +kernel
theorem dL_ask_15 : decode cL_ask 15 = .ok (.ireturn, 1) := by decide +kernel
theorem dL_ask_16 : decode cL_ask 16 = .ok (.astore 5, 2) := by decide +kernel
theorem dL_ask_18 : decode cL_ask 18 = .ok (.sipush (-1012), 3) := by decide +kernel
theorem dL_ask_21 : decode cL_ask 21 = .ok (.ireturn, 1) := by decide +kernel
theorem dL_ask_22 : decode cL_ask 22 = .ok (.astore 5, 2) := by decide +kernel
theorem dL_ask_24 : decode cL_ask 24 = .ok (.sipush (-1013), 3) := by decide +kernel
theorem dL_ask_27 : decode cL_ask 27 = .ok (.ireturn, 1) := by decide +kernel
theorem dL_draw_0 : decode cL_draw 0 = .ok (.iload_n 1, 1) := by decide +kernel
theorem dL_draw_1 : decode cL_draw 1 = .ok (.aload_n 0, 1) := by decide +kernel
theorem dL_draw_2 : decode cL_draw 2 = .ok (.arraylength, 1) := by decide +kernel
theorem dL_draw_3 : decode cL_draw 3 = .ok (.if_icmp .ge 9, 3) := by decide +kernel
theorem dL_draw_6 : decode cL_draw 6 = .ok (.aload_n 0, 1) := by decide +kernel
theorem dL_draw_7 : decode cL_draw 7 = .ok (.iload_n 1, 1) := by decide +kernel
theorem dL_draw_8 : decode cL_draw 8 = .ok (.iaload, 1) := by decide +kernel
theorem dL_draw_9 : decode cL_draw 9 = .ok (.goto 18, 3) := by decide +kernel
theorem dL_draw_12 : decode cL_draw 12 = .ok (.ldc 49, 2) := by decide +kernel
theorem dL_draw_14 : decode cL_draw 14 = .ok (.iload_n 1, 1) := by decide +kernel
theorem dL_draw_15 : decode cL_draw 15 = .ok (.imul, 1) := by decide +kernel
theorem dL_draw_16 : decode cL_draw 16 = .ok (.iload_n 1, 1) := by decide +kernel
theorem dL_draw_17 : decode cL_draw 17 = .ok (.imul, 1) := by decide +kernel
theorem dL_draw_18 : decode cL_draw 18 = .ok (.ldc 50, 2) := by decide +kernel
theorem dL_draw_20 : decode cL_draw 20 = .ok (.iload_n 1, 1) := by decide +kernel
theorem dL_draw_21 : decode cL_draw 21 = .ok (.imul, 1) := by decide +kernel
theorem dL_draw_22 : decode cL_draw 22 = .ok (.iadd, 1) := by decide +kernel
theorem dL_draw_23 : decode cL_draw 23 = .ok (.sipush 317, 3) := by decide +kernel
theorem dL_draw_26 : decode cL_draw 26 = .ok (.iadd, 1) := by decide +kernel
theorem dL_draw_27 : decode cL_draw 27 = .ok (.ireturn, 1) := by decide +kernel
theorem dL_isChain_0 : decode cL_isChain 0 = .ok (.aload_n 0, 1) := by decide +kernel
theorem dL_isChain_1 : decode cL_isChain 1 = .ok (.iload_n 1, 1) := by decide +kernel
theorem dL_isChain_2 : decode cL_isChain 2 = .ok (.iconst 1, 1) := by decide +kernel
theorem dL_isChain_3 : decode cL_isChain 3 = .ok (.invokevirtual 51, 3) := by decide +kernel
theorem dL_isChain_6 : decode cL_isChain 6 = .ok (.istore_n 2, 1) := by decide +kernel
theorem dL_isChain_7 : decode cL_isChain 7 = .ok (.aload_n 0, 1) := by decide +kernel
theorem dL_isChain_8 : decode cL_isChain 8 = .ok (.iload_n 1, 1) := by decide +kernel
theorem dL_isChain_9 : decode cL_isChain 9 = .ok (.invokevirtual 54, 3) := by decide +kernel
theorem dL_isChain_12 : decode cL_isChain 12 = .ok (.istore_n 3, 1) := by decide +kernel
theorem dL_isChain_13 : decode cL_isChain 13 = .ok (.iload_n 2, 1) := by decide +kernel
theorem dL_isChain_14 : decode cL_isChain 14 = .ok (.ifCond .le 23, 3) := by decide +kernel
theorem dL_isChain_17 : decode cL_isChain 17 = .ok (.iload_n 2, 1) := by decide +kernel
theorem dL_isChain_18 : decode cL_isChain 18 = .ok (.bipush 31, 2) := by decide +kernel
theorem dL_isChain_20 : decode cL_isChain 20 = .ok (.if_icmp .ge 17, 3) := by decide +kernel
theorem dL_isChain_23 : decode cL_isChain 23 = .ok (.iload_n 3, 1) := by decide +kernel
theorem dL_isChain_24 : decode cL_isChain 24 = .ok (.iconst (-1), 1) := by decide +kernel
theorem dL_isChain_25 : decode cL_isChain 25 = .ok (.if_icmp .lt 12, 3) := by decide +kernel
theorem dL_isChain_28 : decode cL_isChain 28 = .ok (.iload_n 3, 1) := by decide +kernel
theorem dL_isChain_29 : decode cL_isChain 29 = .ok (.iload_n 2, 1) := by decide +kernel
theorem dL_isChain_30 : decode cL_isChain 30 = .ok (.if_icmp .ge 7, 3) := by decide +kernel
theorem dL_isChain_33 : decode cL_isChain 33 = .ok (.iconst 1, 1) := by decide +kernel
theorem dL_isChain_34 : decode cL_isChain 34 = .ok (.goto 4, 3) := by decide +kernel
theorem dL_isChain_37 : decode cL_isChain 37 = .ok (.iconst 0, 1) := by decide +kernel
theorem dL_isChain_38 : decode cL_isChain 38 = .ok (.istore 4, 2) := by decide +kernel
theorem dL_isChain_40 : decode cL_isChain 40 = .ok (.iconst 0, 1) := by decide +kernel
theorem dL_isChain_41 : decode cL_isChain 41 = .ok (.istore 5, 2) := by decide +kernel
theorem dL_isChain_43 : decode cL_isChain 43 = .ok (.iload 5, 2) := by decide +kernel
theorem dL_isChain_45 : decode cL_isChain 45 = .ok (.iload_n 2, 1) := by decide +kernel
theorem dL_isChain_46 : decode cL_isChain 46 = .ok (.if_icmp .ge 323, 3) := by decide +kernel
theorem dL_isChain_49 : decode cL_isChain 49 = .ok (.iload 4, 2) := by decide +kernel
theorem dL_isChain_51 : decode cL_isChain 51 = .ok (.ifCond .eq 318, 3) := by decide +kernel
theorem dL_isChain_54 : decode cL_isChain 54 = .ok (.iload 5, 2) := by decide +kernel
theorem dL_isChain_56 : decode cL_isChain 56 = .ok (.ifCond .ne 8, 3) := by decide +kernel
theorem dL_isChain_59 : decode cL_isChain 59 = .ok (.bipush 17, 2) := by decide +kernel
theorem dL_isChain_61 : decode cL_isChain 61 = .ok (.goto 14, 3) := by decide +kernel
theorem dL_isChain_64 : decode cL_isChain 64 = .ok (.aload_n 0, 1) := by decide +kernel
theorem dL_isChain_65 : decode cL_isChain 65 = .ok (.iload_n 1, 1) := by decide +kernel
theorem dL_isChain_66 : decode cL_isChain 66 = .ok (.iload 5, 2) := by decide +kernel
theorem dL_isChain_68 : decode cL_isChain 68 = .ok (.iconst 1, 1) := by decide +kernel
theorem dL_isChain_69 : decode cL_isChain 69 = .ok (.isub, 1) := by decide +kernel
theorem dL_isChain_70 : decode cL_isChain 70 = .ok (.bipush 6, 2) := by decide +kernel
theorem dL_isChain_72 : decode cL_isChain 72 = .ok (.invokevirtual 57, 3) := by decide +kernel
theorem dL_isChain_75 : decode cL_isChain 75 = .ok (.istore 6, 2) := by decide +kernel
theorem dL_isChain_77 : decode cL_isChain 77 = .ok (.iconst 0, 1) := by decide +kernel
theorem dL_isChain_78 : decode cL_isChain 78 = .ok (.istore 7, 2) := by decide +kernel
theorem dL_isChain_80 : decode cL_isChain 80 = .ok (.iload 7, 2) := by decide +kernel
theorem dL_isChain_82 : decode cL_isChain 82 = .ok (.bipush 6, 2) := by decide +kernel
theorem dL_isChain_84 : decode cL_isChain 84 = .ok (.if_icmp .ge 26, 3) := by decide +kernel
theorem dL_isChain_87 : decode cL_isChain 87 = .ok (.bipush 31, 2) := by decide +kernel
theorem dL_isChain_89 : decode cL_isChain 89 = .ok (.iload 6, 2) := by decide +kernel
theorem dL_isChain_91 : decode cL_isChain 91 = .ok (.imul, 1) := by decide +kernel
theorem dL_isChain_92 : decode cL_isChain 92 = .ok (.aload_n 0, 1) := by decide +kernel
theorem dL_isChain_93 : decode cL_isChain 93 = .ok (.iload_n 1, 1) := by decide +kernel
theorem dL_isChain_94 : decode cL_isChain 94 = .ok (.iload 5, 2) := by decide +kernel
theorem dL_isChain_96 : decode cL_isChain 96 = .ok (.iload 7, 2) := by decide +kernel
theorem dL_isChain_98 : decode cL_isChain 98 = .ok (.invokevirtual 57, 3) := by decide +kernel
theorem dL_isChain_101 : decode cL_isChain 101 = .ok (.iadd, 1) := by decide +kernel
theorem dL_isChain_102 : decode cL_isChain 102 = .ok (.istore 6, 2) := by decide +kernel
theorem dL_isChain_104 : decode cL_isChain 104 = .ok (.iinc 7 1, 3) := by decide +kernel
theorem dL_isChain_107 : decode cL_isChain 107 = .ok (.goto (-27), 3) := by decide +kernel
theorem dL_isChain_110 : decode cL_isChain 110 = .ok (.iload 6, 2) := by decide +kernel
theorem dL_isChain_112 : decode cL_isChain 112 = .ok (.aload_n 0, 1) := by decide +kernel
theorem dL_isChain_113 : decode cL_isChain 113 = .ok (.iload_n 1, 1) := by decide +kernel
theorem dL_isChain_114 : decode cL_isChain 114 = .ok (.iload 5, 2) := by decide +kernel
theorem dL_isChain_116 : decode cL_isChain 116 = .ok (.bipush 6, 2) := by decide +kernel
theorem dL_isChain_118 : decode cL_isChain 118 = .ok (.invokevirtual 57, 3) := by decide +kernel
theorem dL_isChain_121 : decode cL_isChain 121 = .ok (.if_icmp .ne 7, 3) := by decide +kernel
theorem dL_isChain_124 : decode cL_isChain 124 = .ok (.iconst 1, 1) := by decide +kernel
theorem dL_isChain_125 : decode cL_isChain 125 = .ok (.goto 4, 3) := by decide +kernel
theorem dL_isChain_128 : decode cL_isChain 128 = .ok (.iconst 0, 1) := by decide +kernel
theorem dL_isChain_129 : decode cL_isChain 129 = .ok (.istore 7, 2) := by decide +kernel
theorem dL_isChain_131 : decode cL_isChain 131 = .ok (.iload_n 3, 1) := by decide +kernel
theorem dL_isChain_132 : decode cL_isChain 132 = .ok (.ifCond .lt 9, 3) := by decide +kernel
theorem dL_isChain_135 : decode cL_isChain 135 = .ok (.iload 5, 2) := by decide +kernel
theorem dL_isChain_137 : decode cL_isChain 137 = .ok (.iload_n 3, 1) := by decide +kernel
theorem dL_isChain_138 : decode cL_isChain 138 = .ok (.if_icmp .ge 8, 3) := by decide +kernel
theorem dL_isChain_141 : decode cL_isChain 141 = .ok (.iload 7, 2) := by decide +kernel
theorem dL_isChain_143 : decode cL_isChain 143 = .ok (.goto 19, 3) := by decide +kernel
theorem dL_isChain_146 : decode cL_isChain 146 = .ok (.iload 5, 2) := by decide +kernel
theorem dL_isChain_148 : decode cL_isChain 148 = .ok (.iload_n 3, 1) := by decide +kernel
theorem dL_isChain_149 : decode cL_isChain 149 = .ok (.if_icmp .gt 8, 3) := by decide +kernel
theorem dL_isChain_152 : decode cL_isChain 152 = .ok (.iload 7, 2) := by decide +kernel
theorem dL_isChain_154 : decode cL_isChain 154 = .ok (.ifCond .ne 7, 3) := by decide +kernel
theorem dL_isChain_157 : decode cL_isChain 157 = .ok (.iconst 1, 1) := by decide +kernel
theorem dL_isChain_158 : decode cL_isChain 158 = .ok (.goto 4, 3) := by decide +kernel
theorem dL_isChain_161 : decode cL_isChain 161 = .ok (.iconst 0, 1) := by decide +kernel
theorem dL_isChain_162 : decode cL_isChain 162 = .ok (.istore 4, 2) := by decide +kernel
theorem dL_isChain_164 : decode cL_isChain 164 = .ok (.aload_n 0, 1) := by decide +kernel
theorem dL_isChain_165 : decode cL_isChain 165 = .ok (.iload_n 1, 1) := by decide +kernel
theorem dL_isChain_166 : decode cL_isChain 166 = .ok (.iload 5, 2) := by decide +kernel
theorem dL_isChain_168 : decode cL_isChain 168 = .ok (.iconst 0, 1) := by decide +kernel
theorem dL_isChain_169 : decode cL_isChain 169 = .ok (.invokevirtual 57, 3) := by decide +kernel
theorem dL_isChain_172 : decode cL_isChain 172 = .ok (.istore 8, 2) := by decide +kernel
theorem dL_isChain_174 : decode cL_isChain 174 = .ok (.aload_n 0, 1) := by decide +kernel
theorem dL_isChain_175 : decode cL_isChain 175 = .ok (.iload_n 1, 1) := by decide +kernel
theorem dL_isChain_176 : decode cL_isChain 176 = .ok (.iload 5, 2) := by decide +kernel
theorem dL_isChain_178 : decode cL_isChain 178 = .ok (.iconst 4, 1) := by decide +kernel
theorem dL_isChain_179 : decode cL_isChain 179 = .ok (.invokevirtual 57, 3) := by decide +kernel
theorem dL_isChain_182 : decode cL_isChain 182 = .ok (.istore 9, 2) := by decide +kernel
theorem dL_isChain_184 : decode cL_isChain 184 = .ok (.aload_n 0, 1) := by decide +kernel
theorem dL_isChain_185 : decode cL_isChain 185 = .ok (.iload_n 1, 1) := by decide +kernel
theorem dL_isChain_186 : decode cL_isChain 186 = .ok (.iload 5, 2) := by decide +kernel
theorem dL_isChain_188 : decode cL_isChain 188 = .ok (.iconst 5, 1) := by decide +kernel
theorem dL_isChain_189 : decode cL_isChain 189 = .ok (.invokevirtual 57, 3) := by decide +kernel
theorem dL_isChain_192 : decode cL_isChain 192 = .ok (.istore 10, 2) := by decide +kernel
theorem dL_isChain_194 : decode cL_isChain 194 = .ok (.iload 8, 2) := by decide +kernel
theorem dL_isChain_196 : decode cL_isChain 196 = .ok (.iconst 3, 1) := by decide +kernel
theorem dL_isChain_197 : decode cL_isChain 197 = .ok (.if_icmp .ne 7, 3) := by decide +kernel
theorem dL_isChain_200 : decode cL_isChain 200 = .ok (.iconst 4, 1) := by decide +kernel
theorem dL_isChain_201 : decode cL_isChain 201 = .ok (.goto 36, 3) := by decide +kernel
theorem dL_isChain_204 : decode cL_isChain 204 = .ok (.iload 8, 2) := by decide +kernel
theorem dL_isChain_206 : decode cL_isChain 206 = .ok (.iconst 4, 1) := by decide +kernel
theorem dL_isChain_207 : decode cL_isChain 207 = .ok (.if_icmp .ne 7, 3) := by decide +kernel
theorem dL_isChain_210 : decode cL_isChain 210 = .ok (.iconst 3, 1) := by decide +kernel
theorem dL_isChain_211 : decode cL_isChain 211 = .ok (.goto 26, 3) := by decide +kernel
theorem dL_isChain_214 : decode cL_isChain 214 = .ok (.iload 8, 2) := by decide +kernel
theorem dL_isChain_216 : decode cL_isChain 216 = .ok (.iconst 5, 1) := by decide +kernel
theorem dL_isChain_217 : decode cL_isChain 217 = .ok (.if_icmp .ne 8, 3) := by decide +kernel
theorem dL_isChain_220 : decode cL_isChain 220 = .ok (.bipush 6, 2) := by decide +kernel
theorem dL_isChain_222 : decode cL_isChain 222 = .ok (.goto 15, 3) := by decide +kernel
theorem dL_isChain_225 : decode cL_isChain 225 = .ok (.iload 8, 2) := by decide +kernel
theorem dL_isChain_227 : decode cL_isChain 227 = .ok (.bipush 6, 2) := by decide +kernel
theorem dL_isChain_229 : decode cL_isChain 229 = .ok (.if_icmp .ne 7, 3) := by decide +kernel
theorem dL_isChain_232 : decode cL_isChain 232 = .ok (.iconst 5, 1) := by decide +kernel
theorem dL_isChain_233 : decode cL_isChain 233 = .ok (.goto 4, 3) := by decide +kernel
theorem dL_isChain_236 : decode cL_isChain 236 = .ok (.iconst (-1), 1) := by decide +kernel
theorem dL_isChain_237 : decode cL_isChain 237 = .ok (.istore 11, 2) := by decide +kernel
theorem dL_isChain_239 : decode cL_isChain 239 = .ok (.iload 4, 2) := by decide +kernel
theorem dL_isChain_241 : decode cL_isChain 241 = .ok (.ifCond .eq 53, 3) := by decide +kernel
theorem dL_isChain_244 : decode cL_isChain 244 = .ok (.iload 11, 2) := by decide +kernel
theorem dL_isChain_246 : decode cL_isChain 246 = .ok (.ifCond .lt 44, 3) := by decide +kernel
theorem dL_isChain_249 : decode cL_isChain 249 = .ok (.aload_n 0, 1) := by decide +kernel
theorem dL_isChain_250 : decode cL_isChain 250 = .ok (.iload 9, 2) := by decide +kernel
theorem dL_isChain_252 : decode cL_isChain 252 = .ok (.iload 10, 2) := by decide +kernel
theorem dL_isChain_254 : decode cL_isChain 254 = .ok (.iconst 0, 1) := by decide +kernel
theorem dL_isChain_255 : decode cL_isChain 255 = .ok (.invokevirtual 57, 3) := by decide +kernel
theorem dL_isChain_258 : decode cL_isChain 258 = .ok (.iload 11, 2) := by decide +kernel
theorem dL_isChain_260 : decode cL_isChain 260 = .ok (.if_icmp .ne 34, 3) := by decide +kernel
theorem dL_isChain_263 : decode cL_isChain 263 = .ok (.aload_n 0, 1) := by decide +kernel
theorem dL_isChain_264 : decode cL_isChain 264 = .ok (.iload 9, 2) := by decide +kernel
theorem dL_isChain_266 : decode cL_isChain 266 = .ok (.iload 10, 2) := by decide +kernel
theorem dL_isChain_268 : decode cL_isChain 268 = .ok (.iconst 4, 1) := by decide +kernel
theorem dL_isChain_269 : decode cL_isChain 269 = .ok (.invokevirtual 57, 3) := by decide +kernel
theorem dL_isChain_272 : decode cL_isChain 272 = .ok (.iload_n 1, 1) := by decide +kernel
theorem dL_isChain_273 : decode cL_isChain 273 = .ok (.if_icmp .ne 21, 3) := by decide +kernel
theorem dL_isChain_276 : decode cL_isChain 276 = .ok (.aload_n 0, 1) := by decide +kernel
theorem dL_isChain_277 : decode cL_isChain 277 = .ok (.iload 9, 2) := by decide +kernel
theorem dL_isChain_279 : decode cL_isChain 279 = .ok (.iload 10, 2) := by decide +kernel
theorem dL_isChain_281 : decode cL_isChain 281 = .ok (.iconst 5, 1) := by decide +kernel
theorem dL_isChain_282 : decode cL_isChain 282 = .ok (.invokevirtual 57, 3) := by decide +kernel
theorem dL_isChain_285 : decode cL_isChain 285 = .ok (.iload 5, 2) := by decide +kernel
theorem dL_isChain_287 : decode cL_isChain 287 = .ok (.if_icmp .ne 7, 3) := by decide +kernel
theorem dL_isChain_290 : decode cL_isChain 290 = .ok (.iconst 1, 1) := by decide +kernel
theorem dL_isChain_291 : decode cL_isChain 291 = .ok (.goto 4, 3) := by decide +kernel
theorem dL_isChain_294 : decode cL_isChain 294 = .ok (.iconst 0, 1) := by decide +kernel
theorem dL_isChain_295 : decode cL_isChain 295 = .ok (.istore 4, 2) := by decide +kernel
theorem dL_isChain_297 : decode cL_isChain 297 = .ok (.iload 4, 2) := by decide +kernel
theorem dL_isChain_299 : decode cL_isChain 299 = .ok (.ifCond .eq 61, 3) := by decide +kernel
theorem dL_isChain_302 : decode cL_isChain 302 = .ok (.iload 8, 2) := by decide +kernel
theorem dL_isChain_304 : decode cL_isChain 304 = .ok (.ifCond .eq 9, 3) := by decide +kernel
theorem dL_isChain_307 : decode cL_isChain 307 = .ok (.iload 8, 2) := by decide +kernel
theorem dL_isChain_309 : decode cL_isChain 309 = .ok (.iconst 4, 1) := by decide +kernel
theorem dL_isChain_310 : decode cL_isChain 310 = .ok (.if_icmp .ne 7, 3) := by decide +kernel
theorem dL_isChain_313 : decode cL_isChain 313 = .ok (.iconst 1, 1) := by decide +kernel
theorem dL_isChain_314 : decode cL_isChain 314 = .ok (.goto 4, 3) := by decide +kernel
theorem dL_isChain_317 : decode cL_isChain 317 = .ok (.iconst 0, 1) := by decide +kernel
theorem dL_isChain_318 : decode cL_isChain 318 = .ok (.iload 5, 2) := by decide +kernel
theorem dL_isChain_320 : decode cL_isChain 320 = .ok (.ifCond .ne 7, 3) := by decide +kernel
theorem dL_isChain_323 : decode cL_isChain 323 = .ok (.iconst 1, 1) := by decide +kernel
theorem dL_isChain_324 : decode cL_isChain 324 = .ok (.goto 4, 3) := by decide +kernel
theorem dL_isChain_327 : decode cL_isChain 327 = .ok (.iconst 0, 1) := by decide +kernel
theorem dL_isChain_328 : decode cL_isChain 328 = .ok (.if_icmp .ne 32, 3) := by decide +kernel
theorem dL_isChain_331 : decode cL_isChain 331 = .ok (.iload 8, 2) := by decide +kernel
theorem dL_isChain_333 : decode cL_isChain 333 = .ok (.bipush 6, 2) := by decide +kernel
theorem dL_isChain_335 : decode cL_isChain 335 = .ok (.if_icmp .ne 21, 3) := by decide +kernel
theorem dL_isChain_338 : decode cL_isChain 338 = .ok (.iload 5, 2) := by decide +kernel
theorem dL_isChain_340 : decode cL_isChain 340 = .ok (.iload_n 2, 1) := by decide +kernel
theorem dL_isChain_341 : decode cL_isChain 341 = .ok (.iconst 1, 1) := by decide +kernel
theorem dL_isChain_342 : decode cL_isChain 342 = .ok (.isub, 1) := by decide +kernel
theorem dL_isChain_343 : decode cL_isChain 343 = .ok (.if_icmp .ne 17, 3) := by decide +kernel
theorem dL_isChain_346 : decode cL_isChain 346 = .ok (.aload_n 0, 1) := by decide +kernel
theorem dL_isChain_347 : decode cL_isChain 347 = .ok (.iload_n 1, 1) := by decide +kernel
theorem dL_isChain_348 : decode cL_isChain 348 = .ok (.iconst 4, 1) := by decide +kernel
theorem dL_isChain_349 : decode cL_isChain 349 = .ok (.invokevirtual 51, 3) := by decide +kernel
theorem dL_isChain_352 : decode cL_isChain 352 = .ok (.iconst 1, 1) := by decide +kernel
theorem dL_isChain_353 : decode cL_isChain 353 = .ok (.if_icmp .ne 7, 3) := by decide +kernel
theorem dL_isChain_356 : decode cL_isChain 356 = .ok (.iconst 1, 1) := by decide +kernel
theorem dL_isChain_357 : decode cL_isChain 357 = .ok (.goto 4, 3) := by decide +kernel
theorem dL_isChain_360 : decode cL_isChain 360 = .ok (.iconst 0, 1) := by decide +kernel
theorem dL_isChain_361 : decode cL_isChain 361 = .ok (.istore 4, 2) := by decide +kernel
theorem dL_isChain_363 : decode cL_isChain 363 = .ok (.iinc 5 1, 3) := by decide +kernel
theorem dL_isChain_366 : decode cL_isChain 366 = .ok (.goto (-323), 3) := by decide +kernel
theorem dL_isChain_369 : decode cL_isChain 369 = .ok (.iload 4, 2) := by decide +kernel
theorem dL_isChain_371 : decode cL_isChain 371 = .ok (.ireturn, 1) := by decide +kernel
theorem dL_areGoods_0 : decode cL_areGoods 0 = .ok (.iconst 1, 1) := by decide +kernel
theorem dL_areGoods_1 : decode cL_areGoods 1 = .ok (.istore 4, 2) := by decide +kernel
theorem dL_areGoods_3 : decode cL_areGoods 3 = .ok (.iconst 0, 1) := by decide +kernel
theorem dL_areGoods_4 : decode cL_areGoods 4 = .ok (.istore 5, 2) := by decide +kernel
theorem dL_areGoods_6 : decode cL_areGoods 6 = .ok (.iload 5, 2) := by decide +kernel
theorem dL_areGoods_8 : decode cL_areGoods 8 = .ok (.bipush 6, 2) := by decide +kernel
theorem dL_areGoods_10 : decode cL_areGoods 10 = .ok (.if_icmp .ge 159, 3) := by decide +kernel
theorem dL_areGoods_13 : decode cL_areGoods 13 = .ok (.iload 4, 2) := by decide +kernel
theorem dL_areGoods_15 : decode cL_areGoods 15 = .ok (.ifCond .eq 154, 3) := by decide +kernel
theorem dL_areGoods_18 : decode cL_areGoods 18 = .ok (.iconst 0, 1) := by decide +kernel
theorem dL_areGoods_19 : decode cL_areGoods 19 = .ok (.istore 6, 2) := by decide +kernel
theorem dL_areGoods_21 : decode cL_areGoods 21 = .ok (.iconst 0, 1) := by decide +kernel
theorem dL_areGoods_22 : decode cL_areGoods 22 = .ok (.istore 7, 2) := by decide +kernel
theorem dL_areGoods_24 : decode cL_areGoods 24 = .ok (.iconst 0, 1) := by decide +kernel
theorem dL_areGoods_25 : decode cL_areGoods 25 = .ok (.istore 8, 2) := by decide +kernel
theorem dL_areGoods_27 : decode cL_areGoods 27 = .ok (.iload 8, 2) := by decide +kernel
theorem dL_areGoods_29 : decode cL_areGoods 29 = .ok (.iload_n 1, 1) := by decide +kernel
theorem dL_areGoods_30 : decode cL_areGoods 30 = .ok (.if_icmp .ge 99, 3) := by decide +kernel
theorem dL_areGoods_33 : decode cL_areGoods 33 = .ok (.iload 4, 2) := by decide +kernel
theorem dL_areGoods_35 : decode cL_areGoods 35 = .ok (.ifCond .eq 94, 3) := by decide +kernel
theorem dL_areGoods_38 : decode cL_areGoods 38 = .ok (.aload_n 0, 1) := by decide +kernel
theorem dL_areGoods_39 : decode cL_areGoods 39 = .ok (.iload 8, 2) := by decide +kernel
theorem dL_areGoods_41 : decode cL_areGoods 41 = .ok (.iload 5, 2) := by decide +kernel
theorem dL_areGoods_43 : decode cL_areGoods 43 = .ok (.invokevirtual 60, 3) := by decide +kernel
theorem dL_areGoods_46 : decode cL_areGoods 46 = .ok (.istore 9, 2) := by decide +kernel
theorem dL_areGoods_48 : decode cL_areGoods 48 = .ok (.aload_n 0, 1) := by decide +kernel
theorem dL_areGoods_49 : decode cL_areGoods 49 = .ok (.iload 8, 2) := by decide +kernel
theorem dL_areGoods_51 : decode cL_areGoods 51 = .ok (.iload 5, 2) := by decide +kernel
theorem dL_areGoods_53 : decode cL_areGoods 53 = .ok (.invokevirtual 63, 3) := by decide +kernel
theorem dL_areGoods_56 : decode cL_areGoods 56 = .ok (.istore 10, 2) := by decide +kernel
theorem dL_areGoods_58 : decode cL_areGoods 58 = .ok (.iload 6, 2) := by decide +kernel
theorem dL_areGoods_60 : decode cL_areGoods 60 = .ok (.iload 9, 2) := by decide +kernel
theorem dL_areGoods_62 : decode cL_areGoods 62 = .ok (.iadd, 1) := by decide +kernel
theorem dL_areGoods_63 : decode cL_areGoods 63 = .ok (.istore 6, 2) := by decide +kernel
theorem dL_areGoods_65 : decode cL_areGoods 65 = .ok (.iload 7, 2) := by decide +kernel
theorem dL_areGoods_67 : decode cL_areGoods 67 = .ok (.iload 10, 2) := by decide +kernel
theorem dL_areGoods_69 : decode cL_areGoods 69 = .ok (.iadd, 1) := by decide +kernel
theorem dL_areGoods_70 : decode cL_areGoods 70 = .ok (.istore 7, 2) := by decide +kernel
theorem dL_areGoods_72 : decode cL_areGoods 72 = .ok (.iload 9, 2) := by decide +kernel
theorem dL_areGoods_74 : decode cL_areGoods 74 = .ok (.ifCond .lt 46, 3) := by decide +kernel
theorem dL_areGoods_77 : decode cL_areGoods 77 = .ok (.iload 9, 2) := by decide +kernel
theorem dL_areGoods_79 : decode cL_areGoods 79 = .ok (.sipush 999, 3) := by decide +kernel
theorem dL_areGoods_82 : decode cL_areGoods 82 = .ok (.if_icmp .gt 38, 3) := by decide +kernel
theorem dL_areGoods_85 : decode cL_areGoods 85 = .ok (.aload_n 0, 1) := by decide +kernel
theorem dL_areGoods_86 : decode cL_areGoods 86 = .ok (.iload 8, 2) := by decide +kernel
theorem dL_areGoods_88 : decode cL_areGoods 88 = .ok (.iconst 4, 1) := by decide +kernel
theorem dL_areGoods_89 : decode cL_areGoods 89 = .ok (.invokevirtual 51, 3) := by decide +kernel
theorem dL_areGoods_92 : decode cL_areGoods 92 = .ok (.ifCond .eq 13, 3) := by decide +kernel
theorem dL_areGoods_95 : decode cL_areGoods 95 = .ok (.iload 9, 2) := by decide +kernel
theorem dL_areGoods_97 : decode cL_areGoods 97 = .ok (.ifCond .ne 23, 3) := by decide +kernel
theorem dL_areGoods_100 : decode cL_areGoods 100 = .ok (.iload 10, 2) := by decide +kernel
theorem dL_areGoods_102 : decode cL_areGoods 102 = .ok (.ifCond .ne 18, 3) := by decide +kernel
theorem dL_areGoods_105 : decode cL_areGoods 105 = .ok (.iload_n 3, 1) := by decide +kernel
theorem dL_areGoods_106 : decode cL_areGoods 106 = .ok (.ifCond .eq 10, 3) := by decide +kernel
theorem dL_areGoods_109 : decode cL_areGoods 109 = .ok (.iload 9, 2) := by decide +kernel
theorem dL_areGoods_111 : decode cL_areGoods 111 = .ok (.iload 10, 2) := by decide +kernel
theorem dL_areGoods_113 : decode cL_areGoods 113 = .ok (.if_icmp .ne 7, 3) := by decide +kernel
theorem dL_areGoods_116 : decode cL_areGoods 116 = .ok (.iconst 1, 1) := by decide +kernel
theorem dL_areGoods_117 : decode cL_areGoods 117 = .ok (.goto 4, 3) := by decide +kernel
theorem dL_areGoods_120 : decode cL_areGoods 120 = .ok (.iconst 0, 1) := by decide +kernel
theorem dL_areGoods_121 : decode cL_areGoods 121 = .ok (.istore 4, 2) := by decide +kernel
theorem dL_areGoods_123 : decode cL_areGoods 123 = .ok (.iinc 8 1, 3) := by decide +kernel
theorem dL_areGoods_126 : decode cL_areGoods 126 = .ok (.goto (-99), 3) := by decide +kernel
theorem dL_areGoods_129 : decode cL_areGoods 129 = .ok (.iload 4, 2) := by decide +kernel
theorem dL_areGoods_131 : decode cL_areGoods 131 = .ok (.ifCond .eq 29, 3) := by decide +kernel
theorem dL_areGoods_134 : decode cL_areGoods 134 = .ok (.iload 6, 2) := by decide +kernel
theorem dL_areGoods_136 : decode cL_areGoods 136 = .ok (.aload_n 2, 1) := by decide +kernel
theorem dL_areGoods_137 : decode cL_areGoods 137 = .ok (.iload 5, 2) := by decide +kernel
theorem dL_areGoods_139 : decode cL_areGoods 139 = .ok (.iaload, 1) := by decide +kernel
theorem dL_areGoods_140 : decode cL_areGoods 140 = .ok (.if_icmp .ne 20, 3) := by decide +kernel
theorem dL_areGoods_143 : decode cL_areGoods 143 = .ok (.iload_n 3, 1) := by decide +kernel
theorem dL_areGoods_144 : decode cL_areGoods 144 = .ok (.ifCond .eq 12, 3) := by decide +kernel
theorem dL_areGoods_147 : decode cL_areGoods 147 = .ok (.iload 7, 2) := by decide +kernel
theorem dL_areGoods_149 : decode cL_areGoods 149 = .ok (.aload_n 2, 1) := by decide +kernel
theorem dL_areGoods_150 : decode cL_areGoods 150 = .ok (.iload 5, 2) := by decide +kernel
theorem dL_areGoods_152 : decode cL_areGoods 152 = .ok (.iaload, 1) := by decide +kernel
theorem dL_areGoods_153 : decode cL_areGoods 153 = .ok (.if_icmp .ne 7, 3) := by decide +kernel
theorem dL_areGoods_156 : decode cL_areGoods 156 = .ok (.iconst 1, 1) := by decide +kernel
theorem dL_areGoods_157 : decode cL_areGoods 157 = .ok (.goto 4, 3) := by decide +kernel
theorem dL_areGoods_160 : decode cL_areGoods 160 = .ok (.iconst 0, 1) := by decide +kernel
theorem dL_areGoods_161 : decode cL_areGoods 161 = .ok (.istore 4, 2) := by decide +kernel
theorem dL_areGoods_163 : decode cL_areGoods 163 = .ok (.iinc 5 1, 3) := by decide +kernel
theorem dL_areGoods_166 : decode cL_areGoods 166 = .ok (.goto (-160), 3) := by decide +kernel
theorem dL_areGoods_169 : decode cL_areGoods 169 = .ok (.iload 4, 2) := by decide +kernel
theorem dL_areGoods_171 : decode cL_areGoods 171 = .ok (.ireturn, 1) := by decide +kernel
theorem dL_areTrucks_0 : decode cL_areTrucks 0 = .ok (.iconst 0, 1) := by decide +kernel
theorem dL_areTrucks_1 : decode cL_areTrucks 1 = .ok (.istore_n 2, 1) := by decide +kernel
theorem dL_areTrucks_2 : decode cL_areTrucks 2 = .ok (.iconst 0, 1) := by decide +kernel
theorem dL_areTrucks_3 : decode cL_areTrucks 3 = .ok (.istore_n 3, 1) := by decide +kernel
theorem dL_areTrucks_4 : decode cL_areTrucks 4 = .ok (.iconst 1, 1) := by decide +kernel
theorem dL_areTrucks_5 : decode cL_areTrucks 5 = .ok (.istore 4, 2) := by decide +kernel
theorem dL_areTrucks_7 : decode cL_areTrucks 7 = .ok (.iconst 0, 1) := by decide +kernel
theorem dL_areTrucks_8 : decode cL_areTrucks 8 = .ok (.istore 5, 2) := by decide +kernel
theorem dL_areTrucks_10 : decode cL_areTrucks 10 = .ok (.iload 5, 2) := by decide +kernel
theorem dL_areTrucks_12 : decode cL_areTrucks 12 = .ok (.iload_n 1, 1) := by decide +kernel
theorem dL_areTrucks_13 : decode cL_areTrucks 13 = .ok (.if_icmp .ge 110, 3) := by decide +kernel
theorem dL_areTrucks_16 : decode cL_areTrucks 16 = .ok (.iload 4, 2) := by decide +kernel
theorem dL_areTrucks_18 : decode cL_areTrucks 18 = .ok (.ifCond .eq 105, 3) := by decide +kernel
theorem dL_areTrucks_21 : decode cL_areTrucks 21 = .ok (.iconst 0, 1) := by decide +kernel
theorem dL_areTrucks_22 : decode cL_areTrucks 22 = .ok (.istore 6, 2) := by decide +kernel
theorem dL_areTrucks_24 : decode cL_areTrucks 24 = .ok (.iconst 0, 1) := by decide +kernel
theorem dL_areTrucks_25 : decode cL_areTrucks 25 = .ok (.istore 7, 2) := by decide +kernel
theorem dL_areTrucks_27 : decode cL_areTrucks 27 = .ok (.iload 7, 2) := by decide +kernel
theorem dL_areTrucks_29 : decode cL_areTrucks 29 = .ok (.bipush 6, 2) := by decide +kernel
theorem dL_areTrucks_31 : decode cL_areTrucks 31 = .ok (.if_icmp .ge 27, 3) := by decide +kernel
theorem dL_areTrucks_34 : decode cL_areTrucks 34 = .ok (.iload 6, 2) := by decide +kernel
theorem dL_areTrucks_36 : decode cL_areTrucks 36 = .ok (.iload 7, 2) := by decide +kernel
theorem dL_areTrucks_38 : decode cL_areTrucks 38 = .ok (.iconst 1, 1) := by decide +kernel
theorem dL_areTrucks_39 : decode cL_areTrucks 39 = .ok (.iadd, 1) := by decide +kernel
theorem dL_areTrucks_40 : decode cL_areTrucks 40 = .ok (.aload_n 0, 1) := by decide +kernel
theorem dL_areTrucks_41 : decode cL_areTrucks 41 = .ok (.iload 5, 2) := by decide +kernel
theorem dL_areTrucks_43 : decode cL_areTrucks 43 = .ok (.iload 7, 2) := by decide +kernel
theorem dL_areTrucks_45 : decode cL_areTrucks 45 = .ok (.invokevirtual 60, 3) := by decide +kernel
theorem dL_areTrucks_48 : decode cL_areTrucks 48 = .ok (.imul, 1) := by decide +kernel
theorem dL_areTrucks_49 : decode cL_areTrucks 49 = .ok (.iadd, 1) := by decide +kernel
theorem dL_areTrucks_50 : decode cL_areTrucks 50 = .ok (.istore 6, 2) := by decide +kernel
theorem dL_areTrucks_52 : decode cL_areTrucks 52 = .ok (.iinc 7 1, 3) := by decide +kernel
theorem dL_areTrucks_55 : decode cL_areTrucks 55 = .ok (.goto (-28), 3) := by decide +kernel
theorem dL_areTrucks_58 : decode cL_areTrucks 58 = .ok (.iload_n 2, 1) := by decide +kernel
theorem dL_areTrucks_59 : decode cL_areTrucks 59 = .ok (.aload_n 0, 1) := by decide +kernel
theorem dL_areTrucks_60 : decode cL_areTrucks 60 = .ok (.iload 5, 2) := by decide +kernel
theorem dL_areTrucks_62 : decode cL_areTrucks 62 = .ok (.iconst 0, 1) := by decide +kernel
theorem dL_areTrucks_63 : decode cL_areTrucks 63 = .ok (.invokevirtual 51, 3) := by decide +kernel
theorem dL_areTrucks_66 : decode cL_areTrucks 66 = .ok (.iconst 4, 1) := by decide +kernel
theorem dL_areTrucks_67 : decode cL_areTrucks 67 = .ok (.if_icmp .ne 8, 3) := by decide +kernel
theorem dL_areTrucks_70 : decode cL_areTrucks 70 = .ok (.iload 6, 2) := by decide +kernel
theorem dL_areTrucks_72 : decode cL_areTrucks 72 = .ok (.goto 4, 3) := by decide +kernel
theorem dL_areTrucks_75 : decode cL_areTrucks 75 = .ok (.iconst 0, 1) := by decide +kernel
theorem dL_areTrucks_76 : decode cL_areTrucks 76 = .ok (.iadd, 1) := by decide +kernel
theorem dL_areTrucks_77 : decode cL_areTrucks 77 = .ok (.istore_n 2, 1) := by decide +kernel
theorem dL_areTrucks_78 : decode cL_areTrucks 78 = .ok (.iload_n 3, 1) := by decide +kernel
theorem dL_areTrucks_79 : decode cL_areTrucks 79 = .ok (.aload_n 0, 1) := by decide +kernel
theorem dL_areTrucks_80 : decode cL_areTrucks 80 = .ok (.iload 5, 2) := by decide +kernel
theorem dL_areTrucks_82 : decode cL_areTrucks 82 = .ok (.iconst 0, 1) := by decide +kernel
theorem dL_areTrucks_83 : decode cL_areTrucks 83 = .ok (.invokevirtual 51, 3) := by decide +kernel
theorem dL_areTrucks_86 : decode cL_areTrucks 86 = .ok (.iconst 5, 1) := by decide +kernel
theorem dL_areTrucks_87 : decode cL_areTrucks 87 = .ok (.if_icmp .ne 8, 3) := by decide +kernel
theorem dL_areTrucks_90 : decode cL_areTrucks 90 = .ok (.iload 6, 2) := by decide +kernel
theorem dL_areTrucks_92 : decode cL_areTrucks 92 = .ok (.goto 4, 3) := by decide +kernel
theorem dL_areTrucks_95 : decode cL_areTrucks 95 = .ok (.iconst 0, 1) := by decide +kernel
theorem dL_areTrucks_96 : decode cL_areTrucks 96 = .ok (.iadd, 1) := by decide +kernel
theorem dL_areTrucks_97 : decode cL_areTrucks 97 = .ok (.istore_n 3, 1) := by decide +kernel
theorem dL_areTrucks_98 : decode cL_areTrucks 98 = .ok (.iload 6, 2) := by decide +kernel
theorem dL_areTrucks_100 : decode cL_areTrucks 100 = .ok (.aload_n 0, 1) := by decide +kernel
theorem dL_areTrucks_101 : decode cL_areTrucks 101 = .ok (.iload 5, 2) := by decide +kernel
theorem dL_areTrucks_103 : decode cL_areTrucks 103 = .ok (.iconst 2, 1) := by decide +kernel
theorem dL_areTrucks_104 : decode cL_areTrucks 104 = .ok (.invokevirtual 51, 3) := by decide +kernel
theorem dL_areTrucks_107 : decode cL_areTrucks 107 = .ok (.if_icmp .ne 7, 3) := by decide +kernel
theorem dL_areTrucks_110 : decode cL_areTrucks 110 = .ok (.iconst 1, 1) := by decide +kernel
theorem dL_areTrucks_111 : decode cL_areTrucks 111 = .ok (.goto 4, 3) := by decide +kernel
theorem dL_areTrucks_114 : decode cL_areTrucks 114 = .ok (.iconst 0, 1) := by decide +kernel
theorem dL_areTrucks_115 : decode cL_areTrucks 115 = .ok (.istore 4, 2) := by decide +kernel
theorem dL_areTrucks_117 : decode cL_areTrucks 117 = .ok (.iinc 5 1, 3) := by decide +kernel
theorem dL_areTrucks_120 : decode cL_areTrucks 120 = .ok (.goto (-110), 3) := by decide +kernel
theorem dL_areTrucks_123 : decode cL_areTrucks 123 = .ok (.iload 4, 2) := by decide +kernel
theorem dL_areTrucks_125 : decode cL_areTrucks 125 = .ok (.ifCond .eq 37, 3) := by decide +kernel
theorem dL_areTrucks_128 : decode cL_areTrucks 128 = .ok (.iload_n 2, 1) := by decide +kernel
theorem dL_areTrucks_129 : decode cL_areTrucks 129 = .ok (.sipush 200, 3) := by decide +kernel
theorem dL_areTrucks_132 : decode cL_areTrucks 132 = .ok (.if_icmp .gt 30, 3) := by decide +kernel
theorem dL_areTrucks_135 : decode cL_areTrucks 135 = .ok (.iload_n 3, 1) := by decide +kernel
theorem dL_areTrucks_136 : decode cL_areTrucks 136 = .ok (.sipush 200, 3) := by decide +kernel
theorem dL_areTrucks_139 : decode cL_areTrucks 139 = .ok (.if_icmp .gt 23, 3) := by decide +kernel
theorem dL_areTrucks_142 : decode cL_areTrucks 142 = .ok (.aload_n 0, 1) := by decide +kernel
theorem dL_areTrucks_143 : decode cL_areTrucks 143 = .ok (.iconst 4, 1) := by decide +kernel
theorem dL_areTrucks_144 : decode cL_areTrucks 144 = .ok (.invokevirtual 66, 3) := by decide +kernel
theorem dL_areTrucks_147 : decode cL_areTrucks 147 = .ok (.ifCond .lt 15, 3) := by decide +kernel
theorem dL_areTrucks_150 : decode cL_areTrucks 150 = .ok (.aload_n 0, 1) := by decide +kernel
theorem dL_areTrucks_151 : decode cL_areTrucks 151 = .ok (.iconst 5, 1) := by decide +kernel
theorem dL_areTrucks_152 : decode cL_areTrucks 152 = .ok (.invokevirtual 66, 3) := by decide +kernel
theorem dL_areTrucks_155 : decode cL_areTrucks 155 = .ok (.ifCond .lt 7, 3) := by decide +kernel
theorem dL_areTrucks_158 : decode cL_areTrucks 158 = .ok (.iconst 1, 1) := by decide +kernel
theorem dL_areTrucks_159 : decode cL_areTrucks 159 = .ok (.goto 4, 3) := by decide +kernel
theorem dL_areTrucks_162 : decode cL_areTrucks 162 = .ok (.iconst 0, 1) := by decide +kernel
theorem dL_areTrucks_163 : decode cL_areTrucks 163 = .ok (.ireturn, 1) := by decide +kernel
theorem dL_law_0 : decode cL_law 0 = .ok (.new 8, 3) := by decide +kernel
theorem dL_law_3 : decode cL_law 3 = .ok (.dup, 1) := by decide +kernel
theorem dL_law_4 : decode cL_law 4 = .ok (.invokespecial 69, 3) := by decide +kernel
theorem dL_law_7 : decode cL_law 7 = .ok (.astore_n 1, 1) := by decide +kernel
theorem dL_law_8 : decode cL_law 8 = .ok (.bipush 6, 2) := by decide +kernel
theorem dL_law_10 : decode cL_law 10 = .ok (.newarray .int, 2) := by decide +kernel
theorem dL_law_12 : decode cL_law 12 = .ok (.astore_n 2, 1) := by decide +kernel
theorem dL_law_13 : decode cL_law 13 = .ok (.bipush 14, 2) := by decide +kernel
theorem dL_law_15 : decode cL_law 15 = .ok (.newarray .int, 2) := by decide +kernel
theorem dL_law_17 : decode cL_law 17 = .ok (.astore_n 3, 1) := by decide +kernel
theorem dL_law_18 : decode cL_law 18 = .ok (.iconst 0, 1) := by decide +kernel
theorem dL_law_19 : decode cL_law 19 = .ok (.istore 4, 2) := by decide +kernel
theorem dL_law_21 : decode cL_law 21 = .ok (.iconst 0, 1) := by decide +kernel
theorem dL_law_22 : decode cL_law 22 = .ok (.istore 5, 2) := by decide +kernel
theorem dL_law_24 : decode cL_law 24 = .ok (.iconst 1, 1) := by decide +kernel
theorem dL_law_25 : decode cL_law 25 = .ok (.istore 6, 2) := by decide +kernel
theorem dL_law_27 : decode cL_law 27 = .ok (.aload_n 0, 1) := by decide +kernel
theorem dL_law_28 : decode cL_law 28 = .ok (.arraylength, 1) := by decide +kernel
theorem dL_law_29 : decode cL_law 29 = .ok (.bipush 60, 2) := by decide +kernel
theorem dL_law_31 : decode cL_law 31 = .ok (.if_icmp .ge 8, 3) := by decide +kernel
theorem dL_law_34 : decode cL_law 34 = .ok (.bipush 120, 2) := by decide +kernel
theorem dL_law_36 : decode cL_law 36 = .ok (.goto 20, 3) := by decide +kernel
theorem dL_law_39 : decode cL_law 39 = .ok (.aload_n 0, 1) := by decide +kernel
theorem dL_law_40 : decode cL_law 40 = .ok (.arraylength, 1) := by decide +kernel
theorem dL_law_41 : decode cL_law 41 = .ok (.bipush 110, 2) := by decide +kernel
theorem dL_law_43 : decode cL_law 43 = .ok (.if_icmp .ge 10, 3) := by decide +kernel
theorem dL_law_46 : decode cL_law 46 = .ok (.iconst 2, 1) := by decide +kernel
theorem dL_law_47 : decode cL_law 47 = .ok (.aload_n 0, 1) := by decide +kernel
theorem dL_law_48 : decode cL_law 48 = .ok (.arraylength, 1) := by decide +kernel
theorem dL_law_49 : decode cL_law 49 = .ok (.imul, 1) := by decide +kernel
theorem dL_law_50 : decode cL_law 50 = .ok (.goto 6, 3) := by decide +kernel
theorem dL_law_53 : decode cL_law 53 = .ok (.sipush 170, 3) := by decide +kernel
theorem dL_law_56 : decode cL_law 56 = .ok (.istore 7, 2) := by decide +kernel
theorem dL_law_58 : decode cL_law 58 = .ok (.iconst 0, 1) := by decide +kernel
theorem dL_law_59 : decode cL_law 59 = .ok (.istore 8, 2) := by decide +kernel
theorem dL_law_61 : decode cL_law 61 = .ok (.iload 8, 2) := by decide +kernel
theorem dL_law_63 : decode cL_law 63 = .ok (.iload 7, 2) := by decide +kernel
theorem dL_law_65 : decode cL_law 65 = .ok (.if_icmp .ge 1123, 3) := by decide +kernel
theorem dL_law_68 : decode cL_law 68 = .ok (.iload 6, 2) := by decide +kernel
theorem dL_law_70 : decode cL_law 70 = .ok (.ifCond .eq 1118, 3) := by decide +kernel
theorem dL_law_73 : decode cL_law 73 = .ok (.aload_n 0, 1) := by decide +kernel
theorem dL_law_74 : decode cL_law 74 = .ok (.iload 8, 2) := by decide +kernel
theorem dL_law_76 : decode cL_law 76 = .ok (.invokestatic 70, 3) := by decide +kernel
theorem dL_law_79 : decode cL_law 79 = .ok (.istore 9, 2) := by decide +kernel
theorem dL_law_81 : decode cL_law 81 = .ok (.iload 9, 2) := by decide +kernel
theorem dL_law_83 : decode cL_law 83 = .ok (.iconst 5, 1) := by decide +kernel
theorem dL_law_84 : decode cL_law 84 = .ok (.ishr, 1) := by decide +kernel
theorem dL_law_85 : decode cL_law 85 = .ok (.ldc 74, 2) := by decide +kernel
theorem dL_law_87 : decode cL_law 87 = .ok (.iand, 1) := by decide +kernel
theorem dL_law_88 : decode cL_law 88 = .ok (.istore 10, 2) := by decide +kernel
theorem dL_law_90 : decode cL_law 90 = .ok (.iload 8, 2) := by decide +kernel
theorem dL_law_92 : decode cL_law 92 = .ok (.iconst 3, 1) := by decide +kernel
theorem dL_law_93 : decode cL_law 93 = .ok (.if_icmp .ge 7, 3) := by decide +kernel
theorem dL_law_96 : decode cL_law 96 = .ok (.iconst 0, 1) := by decide +kernel
theorem dL_law_97 : decode cL_law 97 = .ok (.goto 8, 3) := by decide +kernel
theorem dL_law_100 : decode cL_law 100 = .ok (.iload 9, 2) := by decide +kernel
theorem dL_law_102 : decode cL_law 102 = .ok (.bipush 31, 2) := by decide +kernel
theorem dL_law_104 : decode cL_law 104 = .ok (.iand, 1) := by decide +kernel
theorem dL_law_105 : decode cL_law 105 = .ok (.istore 11, 2) := by decide +kernel
theorem dL_law_107 : decode cL_law 107 = .ok (.iload 4, 2) := by decide +kernel
theorem dL_law_109 : decode cL_law 109 = .ok (.ifCond .ne 7, 3) := by decide +kernel
theorem dL_law_112 : decode cL_law 112 = .ok (.iconst 0, 1) := by decide +kernel
theorem dL_law_113 : decode cL_law 113 = .ok (.goto 10, 3) := by decide +kernel
theorem dL_law_116 : decode cL_law 116 = .ok (.iload 10, 2) := by decide +kernel
theorem dL_law_118 : decode cL_law 118 = .ok (.iconst 2, 1) := by decide +kernel
theorem dL_law_119 : decode cL_law 119 = .ok (.ishr, 1) := by decide +kernel
theorem dL_law_120 : decode cL_law 120 = .ok (.iload 4, 2) := by decide +kernel
theorem dL_law_122 : decode cL_law 122 = .ok (.irem, 1) := by decide +kernel
theorem dL_law_123 : decode cL_law 123 = .ok (.istore 12, 2) := by decide +kernel
theorem dL_law_125 : decode cL_law 125 = .ok (.iload 4, 2) := by decide +kernel
theorem dL_law_127 : decode cL_law 127 = .ok (.ifCond .ne 7, 3) := by decide +kernel
theorem dL_law_130 : decode cL_law 130 = .ok (.iconst 0, 1) := by decide +kernel
theorem dL_law_131 : decode cL_law 131 = .ok (.goto 11, 3) := by decide +kernel
theorem dL_law_134 : decode cL_law 134 = .ok (.iload 10, 2) := by decide +kernel
theorem dL_law_136 : decode cL_law 136 = .ok (.bipush 6, 2) := by decide +kernel
theorem dL_law_138 : decode cL_law 138 = .ok (.ishr, 1) := by decide +kernel
theorem dL_law_139 : decode cL_law 139 = .ok (.iload 4, 2) := by decide +kernel
theorem dL_law_141 : decode cL_law 141 = .ok (.irem, 1) := by decide +kernel
theorem dL_law_142 : decode cL_law 142 = .ok (.istore 13, 2) := by decide +kernel
theorem dL_law_144 : decode cL_law 144 = .ok (.iload 10, 2) := by decide +kernel
theorem dL_law_146 : decode cL_law 146 = .ok (.bipush 10, 2) := by decide +kernel
theorem dL_law_148 : decode cL_law 148 = .ok (.ishr, 1) := by decide +kernel
theorem dL_law_149 : decode cL_law 149 = .ok (.bipush 6, 2) := by decide +kernel
theorem dL_law_151 : decode cL_law 151 = .ok (.irem, 1) := by decide +kernel
theorem dL_law_152 : decode cL_law 152 = .ok (.istore 14, 2) := by decide +kernel
theorem dL_law_154 : decode cL_law 154 = .ok (.iconst 1, 1) := by decide +kernel
theorem dL_law_155 : decode cL_law 155 = .ok (.iload 10, 2) := by decide +kernel
theorem dL_law_157 : decode cL_law 157 = .ok (.bipush 13, 2) := by decide +kernel
theorem dL_law_159 : decode cL_law 159 = .ok (.ishr, 1) := by decide +kernel
theorem dL_law_160 : decode cL_law 160 = .ok (.bipush 30, 2) := by decide +kernel
theorem dL_law_162 : decode cL_law 162 = .ok (.irem, 1) := by decide +kernel
theorem dL_law_163 : decode cL_law 163 = .ok (.iadd, 1) := by decide +kernel
theorem dL_law_164 : decode cL_law 164 = .ok (.istore 15, 2) := by decide +kernel
theorem dL_law_166 : decode cL_law 166 = .ok (.iload 11, 2) := by decide +kernel
theorem dL_law_168 : decode cL_law 168 = .ok (.iconst 2, 1) := by decide +kernel
theorem dL_law_169 : decode cL_law 169 = .ok (.if_icmp .ge 61, 3) := by decide +kernel
theorem dL_law_172 : decode cL_law 172 = .ok (.aload_n 1, 1) := by decide +kernel
theorem dL_law_173 : decode cL_law 173 = .ok (.iconst 0, 1) := by decide +kernel
theorem dL_law_174 : decode cL_law 174 = .ok (.iload 10, 2) := by decide +kernel
theorem dL_law_176 : decode cL_law 176 = .ok (.iconst 4, 1) := by decide +kernel
theorem dL_law_177 : decode cL_law 177 = .ok (.irem, 1) := by decide +kernel
theorem dL_law_178 : decode cL_law 178 = .ok (.iconst 0, 1) := by decide +kernel
theorem dL_law_179 : decode cL_law 179 = .ok (.iconst 0, 1) := by decide +kernel
theorem dL_law_180 : decode cL_law 180 = .ok (.invokestatic 75, 3) := by decide +kernel
theorem dL_law_183 : decode cL_law 183 = .ok (.istore 16, 2) := by decide +kernel
theorem dL_law_185 : decode cL_law 185 = .ok (.iload 16, 2) := by decide +kernel
theorem dL_law_187 : decode cL_law 187 = .ok (.iload 4, 2) := by decide +kernel
theorem dL_law_189 : decode cL_law 189 = .ok (.bipush 14, 2) := by decide +kernel
theorem dL_law_191 : decode cL_law 191 = .ok (.if_icmp .ne 9, 3) := by decide +kernel
theorem dL_law_194 : decode cL_law 194 = .ok (.sipush (-1013), 3) := by decide +kernel
theorem dL_law_197 : decode cL_law 197 = .ok (.goto 5, 3) := by decide +kernel
theorem dL_law_200 : decode cL_law 200 = .ok (.iload 4, 2) := by decide +kernel
theorem dL_law_202 : decode cL_law 202 = .ok (.if_icmp .ne 7, 3) := by decide +kernel
theorem dL_law_205 : decode cL_law 205 = .ok (.iconst 1, 1) := by decide +kernel
theorem dL_law_206 : decode cL_law 206 = .ok (.goto 4, 3) := by decide +kernel
theorem dL_law_209 : decode cL_law 209 = .ok (.iconst 0, 1) := by decide +kernel
theorem dL_law_210 : decode cL_law 210 = .ok (.istore 6, 2) := by decide +kernel
theorem dL_law_212 : decode cL_law 212 = .ok (.iload 4, 2) := by decide +kernel
theorem dL_law_214 : decode cL_law 214 = .ok (.iload 16, 2) := by decide +kernel
theorem dL_law_216 : decode cL_law 216 = .ok (.ifCond .lt 7, 3) := by decide +kernel
theorem dL_law_219 : decode cL_law 219 = .ok (.iconst 1, 1) := by decide +kernel
theorem dL_law_220 : decode cL_law 220 = .ok (.goto 4, 3) := by decide +kernel
theorem dL_law_223 : decode cL_law 223 = .ok (.iconst 0, 1) := by decide +kernel
theorem dL_law_224 : decode cL_law 224 = .ok (.iadd, 1) := by decide +kernel
theorem dL_law_225 : decode cL_law 225 = .ok (.istore 4, 2) := by decide +kernel
theorem dL_law_227 : decode cL_law 227 = .ok (.goto 818, 3) := by decide +kernel
theorem dL_law_230 : decode cL_law 230 = .ok (.iload 11, 2) := by decide +kernel
theorem dL_law_232 : decode cL_law 232 = .ok (.bipush 12, 2) := by decide +kernel
theorem dL_law_234 : decode cL_law 234 = .ok (.if_icmp .ge 144, 3) := by decide +kernel
theorem dL_law_237 : decode cL_law 237 = .ok (.iload 10, 2) := by decide +kernel
theorem dL_law_239 : decode cL_law 239 = .ok (.bipush 18, 2) := by decide +kernel
theorem dL_law_241 : decode cL_law 241 = .ok (.ishr, 1) := by decide +kernel
theorem dL_law_242 : decode cL_law 242 = .ok (.iconst 3, 1) := by decide +kernel
theorem dL_law_243 : decode cL_law 243 = .ok (.iand, 1) := by decide +kernel
theorem dL_law_244 : decode cL_law 244 = .ok (.ifCond .ne 9, 3) := by decide +kernel
theorem dL_law_247 : decode cL_law 247 = .ok (.iload 15, 2) := by decide +kernel
theorem dL_law_249 : decode cL_law 249 = .ok (.ineg, 1) := by decide +kernel
theorem dL_law_250 : decode cL_law 250 = .ok (.goto 5, 3) := by decide +kernel
theorem dL_law_253 : decode cL_law 253 = .ok (.iload 15, 2) := by decide +kernel
theorem dL_law_255 : decode cL_law 255 = .ok (.istore 16, 2) := by decide +kernel
theorem dL_law_257 : decode cL_law 257 = .ok (.aload_n 1, 1) := by decide +kernel
theorem dL_law_258 : decode cL_law 258 = .ok (.iload 12, 2) := by decide +kernel
theorem dL_law_260 : decode cL_law 260 = .ok (.iload 14, 2) := by decide +kernel
theorem dL_law_262 : decode cL_law 262 = .ok (.invokevirtual 60, 3) := by decide +kernel
theorem dL_law_265 : decode cL_law 265 = .ok (.istore 17, 2) := by decide +kernel
theorem dL_law_267 : decode cL_law 267 = .ok (.aload_n 1, 1) := by decide +kernel
theorem dL_law_268 : decode cL_law 268 = .ok (.iload 12, 2) := by decide +kernel
theorem dL_law_270 : decode cL_law 270 = .ok (.invokevirtual 78, 3) := by decide +kernel
theorem dL_law_273 : decode cL_law 273 = .ok (.istore 18, 2) := by decide +kernel
theorem dL_law_275 : decode cL_law 275 = .ok (.aload_n 1, 1) := by decide +kernel
theorem dL_law_276 : decode cL_law 276 = .ok (.iconst 1, 1) := by decide +kernel
theorem dL_law_277 : decode cL_law 277 = .ok (.iload 12, 2) := by decide +kernel
theorem dL_law_279 : decode cL_law 279 = .ok (.iload 14, 2) := by decide +kernel
theorem dL_law_281 : decode cL_law 281 = .ok (.iload 16, 2) := by decide +kernel
theorem dL_law_283 : decode cL_law 283 = .ok (.invokestatic 75, 3) := by decide +kernel
theorem dL_law_286 : decode cL_law 286 = .ok (.istore 19, 2) := by decide +kernel
theorem dL_law_288 : decode cL_law 288 = .ok (.aload_n 2, 1) := by decide +kernel
theorem dL_law_289 : decode cL_law 289 = .ok (.iload 14, 2) := by decide +kernel
theorem dL_law_291 : decode cL_law 291 = .ok (.dup2, 1) := by decide +kernel
theorem dL_law_292 : decode cL_law 292 = .ok (.iaload, 1) := by decide +kernel
theorem dL_law_293 : decode cL_law 293 = .ok (.iload 19, 2) := by decide +kernel
theorem dL_law_295 : decode cL_law 295 = .ok (.ifCond .lt 8, 3) := by decide +kernel
theorem dL_law_298 : decode cL_law 298 = .ok (.iload 16, 2) := by decide +kernel
theorem dL_law_300 : decode cL_law 300 = .ok (.goto 4, 3) := by decide +kernel
theorem dL_law_303 : decode cL_law 303 = .ok (.iconst 0, 1) := by decide +kernel
theorem dL_law_304 : decode cL_law 304 = .ok (.iadd, 1) := by decide +kernel
theorem dL_law_305 : decode cL_law 305 = .ok (.iastore, 1) := by decide +kernel
theorem dL_law_306 : decode cL_law 306 = .ok (.iload 19, 2) := by decide +kernel
theorem dL_law_308 : decode cL_law 308 = .ok (.ifCond .lt 39, 3) := by decide +kernel
theorem dL_law_311 : decode cL_law 311 = .ok (.iload 18, 2) := by decide +kernel
theorem dL_law_313 : decode cL_law 313 = .ok (.ifCond .eq 30, 3) := by decide +kernel
theorem dL_law_316 : decode cL_law 316 = .ok (.iload 19, 2) := by decide +kernel
theorem dL_law_318 : decode cL_law 318 = .ok (.iload 17, 2) := by decide +kernel
theorem dL_law_320 : decode cL_law 320 = .ok (.iload 16, 2) := by decide +kernel
theorem dL_law_322 : decode cL_law 322 = .ok (.iadd, 1) := by decide +kernel
theorem dL_law_323 : decode cL_law 323 = .ok (.if_icmp .ne 20, 3) := by decide +kernel
theorem dL_law_326 : decode cL_law 326 = .ok (.aload_n 1, 1) := by decide +kernel
theorem dL_law_327 : decode cL_law 327 = .ok (.iload 12, 2) := by decide +kernel
theorem dL_law_329 : decode cL_law 329 = .ok (.iload 14, 2) := by decide +kernel
theorem dL_law_331 : decode cL_law 331 = .ok (.invokevirtual 60, 3) := by decide +kernel
theorem dL_law_334 : decode cL_law 334 = .ok (.iload 19, 2) := by decide +kernel
theorem dL_law_336 : decode cL_law 336 = .ok (.if_icmp .ne 7, 3) := by decide +kernel
theorem dL_law_339 : decode cL_law 339 = .ok (.iconst 1, 1) := by decide +kernel
theorem dL_law_340 : decode cL_law 340 = .ok (.goto 33, 3) := by decide +kernel
theorem dL_law_343 : decode cL_law 343 = .ok (.iconst 0, 1) := by decide +kernel
theorem dL_law_344 : decode cL_law 344 = .ok (.goto 29, 3) := by decide +kernel
theorem dL_law_347 : decode cL_law 347 = .ok (.iload 19, 2) := by decide +kernel
theorem dL_law_349 : decode cL_law 349 = .ok (.sipush (-1013), 3) := by decide +kernel
theorem dL_law_352 : decode cL_law 352 = .ok (.if_icmp .ne 20, 3) := by decide +kernel
theorem dL_law_355 : decode cL_law 355 = .ok (.aload_n 1, 1) := by decide +kernel
theorem dL_law_356 : decode cL_law 356 = .ok (.iload 12, 2) := by decide +kernel
theorem dL_law_358 : decode cL_law 358 = .ok (.iload 14, 2) := by decide +kernel
theorem dL_law_360 : decode cL_law 360 = .ok (.invokevirtual 60, 3) := by decide +kernel
theorem dL_law_363 : decode cL_law 363 = .ok (.iload 17, 2) := by decide +kernel
theorem dL_law_365 : decode cL_law 365 = .ok (.if_icmp .ne 7, 3) := by decide +kernel
theorem dL_law_368 : decode cL_law 368 = .ok (.iconst 1, 1) := by decide +kernel
theorem dL_law_369 : decode cL_law 369 = .ok (.goto 4, 3) := by decide +kernel
theorem dL_law_372 : decode cL_law 372 = .ok (.iconst 0, 1) := by decide +kernel
theorem dL_law_373 : decode cL_law 373 = .ok (.istore 6, 2) := by decide +kernel
theorem dL_law_375 : decode cL_law 375 = .ok (.goto 670, 3) := by decide +kernel
theorem dL_law_378 : decode cL_law 378 = .ok (.iload 11, 2) := by decide +kernel
theorem dL_law_380 : decode cL_law 380 = .ok (.bipush 16, 2) := by decide +kernel
theorem dL_law_382 : decode cL_law 382 = .ok (.if_icmp .ge 134, 3) := by decide +kernel
theorem dL_law_385 : decode cL_law 385 = .ok (.aload_n 1, 1) := by decide +kernel
theorem dL_law_386 : decode cL_law 386 = .ok (.iload 12, 2) := by decide +kernel
theorem dL_law_388 : decode cL_law 388 = .ok (.iload 14, 2) := by decide +kernel
theorem dL_law_390 : decode cL_law 390 = .ok (.invokevirtual 60, 3) := by decide +kernel
theorem dL_law_393 : decode cL_law 393 = .ok (.istore 16, 2) := by decide +kernel
theorem dL_law_395 : decode cL_law 395 = .ok (.aload_n 1, 1) := by decide +kernel
theorem dL_law_396 : decode cL_law 396 = .ok (.iconst 2, 1) := by decide +kernel
theorem dL_law_397 : decode cL_law 397 = .ok (.iload 12, 2) := by decide +kernel
theorem dL_law_399 : decode cL_law 399 = .ok (.iload 14, 2) := by decide +kernel
theorem dL_law_401 : decode cL_law 401 = .ok (.iload 15, 2) := by decide +kernel
theorem dL_law_403 : decode cL_law 403 = .ok (.invokestatic 75, 3) := by decide +kernel
theorem dL_law_406 : decode cL_law 406 = .ok (.istore 17, 2) := by decide +kernel
theorem dL_law_408 : decode cL_law 408 = .ok (.iload 17, 2) := by decide +kernel
theorem dL_law_410 : decode cL_law 410 = .ok (.ifCond .lt 73, 3) := by decide +kernel
theorem dL_law_413 : decode cL_law 413 = .ok (.iload 17, 2) := by decide +kernel
theorem dL_law_415 : decode cL_law 415 = .ok (.iload 4, 2) := by decide +kernel
theorem dL_law_417 : decode cL_law 417 = .ok (.if_icmp .ne 62, 3) := by decide +kernel
theorem dL_law_420 : decode cL_law 420 = .ok (.aload_n 1, 1) := by decide +kernel
theorem dL_law_421 : decode cL_law 421 = .ok (.iload 17, 2) := by decide +kernel
theorem dL_law_423 : decode cL_law 423 = .ok (.iload 14, 2) := by decide +kernel
theorem dL_law_425 : decode cL_law 425 = .ok (.invokevirtual 60, 3) := by decide +kernel
theorem dL_law_428 : decode cL_law 428 = .ok (.iload 15, 2) := by decide +kernel
theorem dL_law_430 : decode cL_law 430 = .ok (.if_icmp .ne 49, 3) := by decide +kernel
theorem dL_law_433 : decode cL_law 433 = .ok (.aload_n 1, 1) := by decide +kernel
theorem dL_law_434 : decode cL_law 434 = .ok (.iload 12, 2) := by decide +kernel
theorem dL_law_436 : decode cL_law 436 = .ok (.iload 14, 2) := by decide +kernel
theorem dL_law_438 : decode cL_law 438 = .ok (.invokevirtual 60, 3) := by decide +kernel
theorem dL_law_441 : decode cL_law 441 = .ok (.iload 16, 2) := by decide +kernel
theorem dL_law_443 : decode cL_law 443 = .ok (.iload 15, 2) := by decide +kernel
theorem dL_law_445 : decode cL_law 445 = .ok (.isub, 1) := by decide +kernel
theorem dL_law_446 : decode cL_law 446 = .ok (.if_icmp .ne 33, 3) := by decide +kernel
theorem dL_law_449 : decode cL_law 449 = .ok (.aload_n 1, 1) := by decide +kernel
theorem dL_law_450 : decode cL_law 450 = .ok (.iload 17, 2) := by decide +kernel
theorem dL_law_452 : decode cL_law 452 = .ok (.invokevirtual 78, 3) := by decide +kernel
theorem dL_law_455 : decode cL_law 455 = .ok (.ifCond .eq 24, 3) := by decide +kernel
theorem dL_law_458 : decode cL_law 458 = .ok (.aload_n 1, 1) := by decide +kernel
theorem dL_law_459 : decode cL_law 459 = .ok (.iload 17, 2) := by decide +kernel
theorem dL_law_461 : decode cL_law 461 = .ok (.iconst 0, 1) := by decide +kernel
theorem dL_law_462 : decode cL_law 462 = .ok (.invokevirtual 51, 3) := by decide +kernel
theorem dL_law_465 : decode cL_law 465 = .ok (.aload_n 1, 1) := by decide +kernel
theorem dL_law_466 : decode cL_law 466 = .ok (.iload 12, 2) := by decide +kernel
theorem dL_law_468 : decode cL_law 468 = .ok (.iconst 0, 1) := by decide +kernel
theorem dL_law_469 : decode cL_law 469 = .ok (.invokevirtual 51, 3) := by decide +kernel
theorem dL_law_472 : decode cL_law 472 = .ok (.if_icmp .ne 7, 3) := by decide +kernel
theorem dL_law_475 : decode cL_law 475 = .ok (.iconst 1, 1) := by decide +kernel
theorem dL_law_476 : decode cL_law 476 = .ok (.goto 20, 3) := by decide +kernel
theorem dL_law_479 : decode cL_law 479 = .ok (.iconst 0, 1) := by decide +kernel
theorem dL_law_480 : decode cL_law 480 = .ok (.goto 16, 3) := by decide +kernel
theorem dL_law_483 : decode cL_law 483 = .ok (.iload 17, 2) := by decide +kernel
theorem dL_law_485 : decode cL_law 485 = .ok (.sipush (-1013), 3) := by decide +kernel
theorem dL_law_488 : decode cL_law 488 = .ok (.if_icmp .ne 7, 3) := by decide +kernel
theorem dL_law_491 : decode cL_law 491 = .ok (.iconst 1, 1) := by decide +kernel
theorem dL_law_492 : decode cL_law 492 = .ok (.goto 4, 3) := by decide +kernel
theorem dL_law_495 : decode cL_law 495 = .ok (.iconst 0, 1) := by decide +kernel
theorem dL_law_496 : decode cL_law 496 = .ok (.istore 6, 2) := by decide +kernel
theorem dL_law_498 : decode cL_law 498 = .ok (.iload 4, 2) := by decide +kernel
theorem dL_law_500 : decode cL_law 500 = .ok (.iload 17, 2) := by decide +kernel
theorem dL_law_502 : decode cL_law 502 = .ok (.ifCond .lt 7, 3) := by decide +kernel
theorem dL_law_505 : decode cL_law 505 = .ok (.iconst 1, 1) := by decide +kernel
theorem dL_law_506 : decode cL_law 506 = .ok (.goto 4, 3) := by decide +kernel
theorem dL_law_509 : decode cL_law 509 = .ok (.iconst 0, 1) := by decide +kernel
theorem dL_law_510 : decode cL_law 510 = .ok (.iadd, 1) := by decide +kernel
theorem dL_law_511 : decode cL_law 511 = .ok (.istore 4, 2) := by decide +kernel
theorem dL_law_513 : decode cL_law 513 = .ok (.goto 532, 3) := by decide +kernel
theorem dL_law_516 : decode cL_law 516 = .ok (.iload 11, 2) := by decide +kernel
theorem dL_law_518 : decode cL_law 518 = .ok (.bipush 20, 2) := by decide +kernel
theorem dL_law_520 : decode cL_law 520 = .ok (.if_icmp .ge 115, 3) := by decide +kernel
theorem dL_law_523 : decode cL_law 523 = .ok (.aload_n 1, 1) := by decide +kernel
theorem dL_law_524 : decode cL_law 524 = .ok (.iconst 3, 1) := by decide +kernel
theorem dL_law_525 : decode cL_law 525 = .ok (.iload 12, 2) := by decide +kernel
theorem dL_law_527 : decode cL_law 527 = .ok (.iload 13, 2) := by decide +kernel
theorem dL_law_529 : decode cL_law 529 = .ok (.iconst 0, 1) := by decide +kernel
theorem dL_law_530 : decode cL_law 530 = .ok (.invokestatic 75, 3) := by decide +kernel
theorem dL_law_533 : decode cL_law 533 = .ok (.istore 16, 2) := by decide +kernel
theorem dL_law_535 : decode cL_law 535 = .ok (.iload 12, 2) := by decide +kernel
theorem dL_law_537 : decode cL_law 537 = .ok (.iload 13, 2) := by decide +kernel
theorem dL_law_539 : decode cL_law 539 = .ok (.if_icmp .ne 19, 3) := by decide +kernel
theorem dL_law_542 : decode cL_law 542 = .ok (.iload 16, 2) := by decide +kernel
theorem dL_law_544 : decode cL_law 544 = .ok (.sipush (-1012), 3) := by decide +kernel
theorem dL_law_547 : decode cL_law 547 = .ok (.if_icmp .ne 7, 3) := by decide +kernel
theorem dL_law_550 : decode cL_law 550 = .ok (.iconst 1, 1) := by decide +kernel
theorem dL_law_551 : decode cL_law 551 = .ok (.goto 79, 3) := by decide +kernel
theorem dL_law_554 : decode cL_law 554 = .ok (.iconst 0, 1) := by decide +kernel
theorem dL_law_555 : decode cL_law 555 = .ok (.goto 75, 3) := by decide +kernel
theorem dL_law_558 : decode cL_law 558 = .ok (.iload 16, 2) := by decide +kernel
theorem dL_law_560 : decode cL_law 560 = .ok (.ifCond .lt 57, 3) := by decide +kernel
theorem dL_law_563 : decode cL_law 563 = .ok (.aload_n 1, 1) := by decide +kernel
theorem dL_law_564 : decode cL_law 564 = .ok (.iload 12, 2) := by decide +kernel
theorem dL_law_566 : decode cL_law 566 = .ok (.iconst 4, 1) := by decide +kernel
theorem dL_law_567 : decode cL_law 567 = .ok (.invokevirtual 51, 3) := by decide +kernel
theorem dL_law_570 : decode cL_law 570 = .ok (.iconst 1, 1) := by decide +kernel
theorem dL_law_571 : decode cL_law 571 = .ok (.if_icmp .ne 42, 3) := by decide +kernel
theorem dL_law_574 : decode cL_law 574 = .ok (.aload_n 1, 1) := by decide +kernel
theorem dL_law_575 : decode cL_law 575 = .ok (.iload 12, 2) := by decide +kernel
theorem dL_law_577 : decode cL_law 577 = .ok (.invokevirtual 78, 3) := by decide +kernel
theorem dL_law_580 : decode cL_law 580 = .ok (.ifCond .eq 33, 3) := by decide +kernel
theorem dL_law_583 : decode cL_law 583 = .ok (.aload_n 1, 1) := by decide +kernel
theorem dL_law_584 : decode cL_law 584 = .ok (.iload 13, 2) := by decide +kernel
theorem dL_law_586 : decode cL_law 586 = .ok (.invokevirtual 78, 3) := by decide +kernel
theorem dL_law_589 : decode cL_law 589 = .ok (.ifCond .eq 24, 3) := by decide +kernel
theorem dL_law_592 : decode cL_law 592 = .ok (.aload_n 1, 1) := by decide +kernel
theorem dL_law_593 : decode cL_law 593 = .ok (.iload 12, 2) := by decide +kernel
theorem dL_law_595 : decode cL_law 595 = .ok (.iconst 0, 1) := by decide +kernel
theorem dL_law_596 : decode cL_law 596 = .ok (.invokevirtual 51, 3) := by decide +kernel
theorem dL_law_599 : decode cL_law 599 = .ok (.aload_n 1, 1) := by decide +kernel
theorem dL_law_600 : decode cL_law 600 = .ok (.iload 13, 2) := by decide +kernel
theorem dL_law_602 : decode cL_law 602 = .ok (.iconst 0, 1) := by decide +kernel
theorem dL_law_603 : decode cL_law 603 = .ok (.invokevirtual 51, 3) := by decide +kernel
theorem dL_law_606 : decode cL_law 606 = .ok (.if_icmp .ne 7, 3) := by decide +kernel
theorem dL_law_609 : decode cL_law 609 = .ok (.iconst 1, 1) := by decide +kernel
theorem dL_law_610 : decode cL_law 610 = .ok (.goto 20, 3) := by decide +kernel
theorem dL_law_613 : decode cL_law 613 = .ok (.iconst 0, 1) := by decide +kernel
theorem dL_law_614 : decode cL_law 614 = .ok (.goto 16, 3) := by decide +kernel
theorem dL_law_617 : decode cL_law 617 = .ok (.iload 16, 2) := by decide +kernel
theorem dL_law_619 : decode cL_law 619 = .ok (.sipush (-1013), 3) := by decide +kernel
theorem dL_law_622 : decode cL_law 622 = .ok (.if_icmp .ne 7, 3) := by decide +kernel
theorem dL_law_625 : decode cL_law 625 = .ok (.iconst 1, 1) := by decide +kernel
theorem dL_law_626 : decode cL_law 626 = .ok (.goto 4, 3) := by decide +kernel
theorem dL_law_629 : decode cL_law 629 = .ok (.iconst 0, 1) := by decide +kernel
theorem dL_law_630 : decode cL_law 630 = .ok (.istore 6, 2) := by decide +kernel
theorem dL_law_632 : decode cL_law 632 = .ok (.goto 413, 3) := by decide +kernel
theorem dL_law_635 : decode cL_law 635 = .ok (.iload 11, 2) := by decide +kernel
theorem dL_law_637 : decode cL_law 637 = .ok (.bipush 23, 2) := by decide +kernel
theorem dL_law_639 : decode cL_law 639 = .ok (.if_icmp .ge 74, 3) := by decide +kernel
theorem dL_law_642 : decode cL_law 642 = .ok (.aload_n 1, 1) := by decide +kernel
theorem dL_law_643 : decode cL_law 643 = .ok (.iload 12, 2) := by decide +kernel
theorem dL_law_645 : decode cL_law 645 = .ok (.iconst 2, 1) := by decide +kernel
theorem dL_law_646 : decode cL_law 646 = .ok (.invokevirtual 51, 3) := by decide +kernel
theorem dL_law_649 : decode cL_law 649 = .ok (.istore 16, 2) := by decide +kernel
theorem dL_law_651 : decode cL_law 651 = .ok (.aload_n 1, 1) := by decide +kernel
theorem dL_law_652 : decode cL_law 652 = .ok (.iconst 4, 1) := by decide +kernel
theorem dL_law_653 : decode cL_law 653 = .ok (.iload 12, 2) := by decide +kernel
theorem dL_law_655 : decode cL_law 655 = .ok (.iload 14, 2) := by decide +kernel
theorem dL_law_657 : decode cL_law 657 = .ok (.iconst 0, 1) := by decide +kernel
theorem dL_law_658 : decode cL_law 658 = .ok (.invokestatic 75, 3) := by decide +kernel
theorem dL_law_661 : decode cL_law 661 = .ok (.istore 17, 2) := by decide +kernel
theorem dL_law_663 : decode cL_law 663 = .ok (.iload 17, 2) := by decide +kernel
theorem dL_law_665 : decode cL_law 665 = .ok (.ifCond .lt 30, 3) := by decide +kernel
theorem dL_law_668 : decode cL_law 668 = .ok (.iload 17, 2) := by decide +kernel
theorem dL_law_670 : decode cL_law 670 = .ok (.iload 16, 2) := by decide +kernel
theorem dL_law_672 : decode cL_law 672 = .ok (.if_icmp .ne 19, 3) := by decide +kernel
theorem dL_law_675 : decode cL_law 675 = .ok (.aload_n 1, 1) := by decide +kernel
theorem dL_law_676 : decode cL_law 676 = .ok (.iload 12, 2) := by decide +kernel
theorem dL_law_678 : decode cL_law 678 = .ok (.iconst 0, 1) := by decide +kernel
theorem dL_law_679 : decode cL_law 679 = .ok (.invokevirtual 51, 3) := by decide +kernel
theorem dL_law_682 : decode cL_law 682 = .ok (.iload 14, 2) := by decide +kernel
theorem dL_law_684 : decode cL_law 684 = .ok (.if_icmp .ne 7, 3) := by decide +kernel
theorem dL_law_687 : decode cL_law 687 = .ok (.iconst 1, 1) := by decide +kernel
theorem dL_law_688 : decode cL_law 688 = .ok (.goto 20, 3) := by decide +kernel
theorem dL_law_691 : decode cL_law 691 = .ok (.iconst 0, 1) := by decide +kernel
theorem dL_law_692 : decode cL_law 692 = .ok (.goto 16, 3) := by decide +kernel
theorem dL_law_695 : decode cL_law 695 = .ok (.iload 17, 2) := by decide +kernel
theorem dL_law_697 : decode cL_law 697 = .ok (.sipush (-1013), 3) := by decide +kernel
theorem dL_law_700 : decode cL_law 700 = .ok (.if_icmp .ne 7, 3) := by decide +kernel
theorem dL_law_703 : decode cL_law 703 = .ok (.iconst 1, 1) := by decide +kernel
theorem dL_law_704 : decode cL_law 704 = .ok (.goto 4, 3) := by decide +kernel
theorem dL_law_707 : decode cL_law 707 = .ok (.iconst 0, 1) := by decide +kernel
theorem dL_law_708 : decode cL_law 708 = .ok (.istore 6, 2) := by decide +kernel
theorem dL_law_710 : decode cL_law 710 = .ok (.goto 335, 3) := by decide +kernel
theorem dL_law_713 : decode cL_law 713 = .ok (.iload 11, 2) := by decide +kernel
theorem dL_law_715 : decode cL_law 715 = .ok (.bipush 25, 2) := by decide +kernel
theorem dL_law_717 : decode cL_law 717 = .ok (.if_icmp .ge 110, 3) := by decide +kernel
theorem dL_law_720 : decode cL_law 720 = .ok (.aload_n 1, 1) := by decide +kernel
theorem dL_law_721 : decode cL_law 721 = .ok (.iload 12, 2) := by decide +kernel
theorem dL_law_723 : decode cL_law 723 = .ok (.iconst 3, 1) := by decide +kernel
theorem dL_law_724 : decode cL_law 724 = .ok (.invokevirtual 51, 3) := by decide +kernel
theorem dL_law_727 : decode cL_law 727 = .ok (.iconst 1, 1) := by decide +kernel
theorem dL_law_728 : decode cL_law 728 = .ok (.if_icmp .ne 7, 3) := by decide +kernel
theorem dL_law_731 : decode cL_law 731 = .ok (.iconst 1, 1) := by decide +kernel
theorem dL_law_732 : decode cL_law 732 = .ok (.goto 4, 3) := by decide +kernel
theorem dL_law_735 : decode cL_law 735 = .ok (.iconst 0, 1) := by decide +kernel
theorem dL_law_736 : decode cL_law 736 = .ok (.istore 16, 2) := by decide +kernel
theorem dL_law_738 : decode cL_law 738 = .ok (.aload_n 1, 1) := by decide +kernel
theorem dL_law_739 : decode cL_law 739 = .ok (.iconst 5, 1) := by decide +kernel
theorem dL_law_740 : decode cL_law 740 = .ok (.iload 12, 2) := by decide +kernel
theorem dL_law_742 : decode cL_law 742 = .ok (.iconst 0, 1) := by decide +kernel
theorem dL_law_743 : decode cL_law 743 = .ok (.iconst 0, 1) := by decide +kernel
theorem dL_law_744 : decode cL_law 744 = .ok (.invokestatic 75, 3) := by decide +kernel
theorem dL_law_747 : decode cL_law 747 = .ok (.istore 17, 2) := by decide +kernel
theorem dL_law_749 : decode cL_law 749 = .ok (.iload 17, 2) := by decide +kernel
theorem dL_law_751 : decode cL_law 751 = .ok (.ifCond .ge 42, 3) := by decide +kernel
theorem dL_law_754 : decode cL_law 754 = .ok (.iload 17, 2) := by decide +kernel
theorem dL_law_756 : decode cL_law 756 = .ok (.sipush (-1013), 3) := by decide +kernel
theorem dL_law_759 : decode cL_law 759 = .ok (.if_icmp .ne 30, 3) := by decide +kernel
theorem dL_law_762 : decode cL_law 762 = .ok (.aload_n 1, 1) := by decide +kernel
theorem dL_law_763 : decode cL_law 763 = .ok (.iload 12, 2) := by decide +kernel
theorem dL_law_765 : decode cL_law 765 = .ok (.iconst 4, 1) := by decide +kernel
theorem dL_law_766 : decode cL_law 766 = .ok (.invokevirtual 51, 3) := by decide +kernel
theorem dL_law_769 : decode cL_law 769 = .ok (.iconst 1, 1) := by decide +kernel
theorem dL_law_770 : decode cL_law 770 = .ok (.if_icmp .eq 15, 3) := by decide +kernel
theorem dL_law_773 : decode cL_law 773 = .ok (.aload_n 1, 1) := by decide +kernel
theorem dL_law_774 : decode cL_law 774 = .ok (.iload 12, 2) := by decide +kernel
theorem dL_law_776 : decode cL_law 776 = .ok (.iconst 1, 1) := by decide +kernel
theorem dL_law_777 : decode cL_law 777 = .ok (.invokevirtual 51, 3) := by decide +kernel
theorem dL_law_780 : decode cL_law 780 = .ok (.bipush 30, 2) := by decide +kernel
theorem dL_law_782 : decode cL_law 782 = .ok (.if_icmp .ne 7, 3) := by decide +kernel
theorem dL_law_785 : decode cL_law 785 = .ok (.iconst 1, 1) := by decide +kernel
theorem dL_law_786 : decode cL_law 786 = .ok (.goto 36, 3) := by decide +kernel
theorem dL_law_789 : decode cL_law 789 = .ok (.iconst 0, 1) := by decide +kernel
theorem dL_law_790 : decode cL_law 790 = .ok (.goto 32, 3) := by decide +kernel
theorem dL_law_793 : decode cL_law 793 = .ok (.iload 17, 2) := by decide +kernel
theorem dL_law_795 : decode cL_law 795 = .ok (.iconst 1, 1) := by decide +kernel
theorem dL_law_796 : decode cL_law 796 = .ok (.if_icmp .ne 7, 3) := by decide +kernel
theorem dL_law_799 : decode cL_law 799 = .ok (.iconst 1, 1) := by decide +kernel
theorem dL_law_800 : decode cL_law 800 = .ok (.goto 4, 3) := by decide +kernel
theorem dL_law_803 : decode cL_law 803 = .ok (.iconst 0, 1) := by decide +kernel
theorem dL_law_804 : decode cL_law 804 = .ok (.iload 16, 2) := by decide +kernel
theorem dL_law_806 : decode cL_law 806 = .ok (.ifCond .ne 7, 3) := by decide +kernel
theorem dL_law_809 : decode cL_law 809 = .ok (.iconst 1, 1) := by decide +kernel
theorem dL_law_810 : decode cL_law 810 = .ok (.goto 4, 3) := by decide +kernel
theorem dL_law_813 : decode cL_law 813 = .ok (.iconst 0, 1) := by decide +kernel
theorem dL_law_814 : decode cL_law 814 = .ok (.if_icmp .ne 7, 3) := by decide +kernel
theorem dL_law_817 : decode cL_law 817 = .ok (.iconst 1, 1) := by decide +kernel
theorem dL_law_818 : decode cL_law 818 = .ok (.goto 4, 3) := by decide +kernel
theorem dL_law_821 : decode cL_law 821 = .ok (.iconst 0, 1) := by decide +kernel
theorem dL_law_822 : decode cL_law 822 = .ok (.istore 6, 2) := by decide +kernel
theorem dL_law_824 : decode cL_law 824 = .ok (.goto 221, 3) := by decide +kernel
theorem dL_law_827 : decode cL_law 827 = .ok (.iload 11, 2) := by decide +kernel
theorem dL_law_829 : decode cL_law 829 = .ok (.bipush 27, 2) := by decide +kernel
theorem dL_law_831 : decode cL_law 831 = .ok (.if_icmp .ge 112, 3) := by decide +kernel
theorem dL_law_834 : decode cL_law 834 = .ok (.iload 10, 2) := by decide +kernel
theorem dL_law_836 : decode cL_law 836 = .ok (.iconst 3, 1) := by decide +kernel
theorem dL_law_837 : decode cL_law 837 = .ok (.iand, 1) := by decide +kernel
theorem dL_law_838 : decode cL_law 838 = .ok (.ifCond .ne 105, 3) := by decide +kernel
theorem dL_law_841 : decode cL_law 841 = .ok (.iload 10, 2) := by decide +kernel
theorem dL_law_843 : decode cL_law 843 = .ok (.bipush 10, 2) := by decide +kernel
theorem dL_law_845 : decode cL_law 845 = .ok (.ishr, 1) := by decide +kernel
theorem dL_law_846 : decode cL_law 846 = .ok (.aload_n 1, 1) := by decide +kernel
theorem dL_law_847 : decode cL_law 847 = .ok (.iload 12, 2) := by decide +kernel
theorem dL_law_849 : decode cL_law 849 = .ok (.iconst 1, 1) := by decide +kernel
theorem dL_law_850 : decode cL_law 850 = .ok (.invokevirtual 51, 3) := by decide +kernel
theorem dL_law_853 : decode cL_law 853 = .ok (.irem, 1) := by decide +kernel
theorem dL_law_854 : decode cL_law 854 = .ok (.istore 16, 2) := by decide +kernel
theorem dL_law_856 : decode cL_law 856 = .ok (.aload_n 3, 1) := by decide +kernel
theorem dL_law_857 : decode cL_law 857 = .ok (.iload 12, 2) := by decide +kernel
theorem dL_law_859 : decode cL_law 859 = .ok (.iaload, 1) := by decide +kernel
theorem dL_law_860 : decode cL_law 860 = .ok (.ifCond .ne 80, 3) := by decide +kernel
theorem dL_law_863 : decode cL_law 863 = .ok (.aload_n 1, 1) := by decide +kernel
theorem dL_law_864 : decode cL_law 864 = .ok (.iload 12, 2) := by decide +kernel
theorem dL_law_866 : decode cL_law 866 = .ok (.iload 16, 2) := by decide +kernel
theorem dL_law_868 : decode cL_law 868 = .ok (.iconst 3, 1) := by decide +kernel
theorem dL_law_869 : decode cL_law 869 = .ok (.invokevirtual 57, 3) := by decide +kernel
theorem dL_law_872 : decode cL_law 872 = .ok (.istore 17, 2) := by decide +kernel
theorem dL_law_874 : decode cL_law 874 = .ok (.aload_n 1, 1) := by decide +kernel
theorem dL_law_875 : decode cL_law 875 = .ok (.bipush 6, 2) := by decide +kernel
theorem dL_law_877 : decode cL_law 877 = .ok (.iload 12, 2) := by decide +kernel
theorem dL_law_879 : decode cL_law 879 = .ok (.iload 16, 2) := by decide +kernel
theorem dL_law_881 : decode cL_law 881 = .ok (.iload 17, 2) := by decide +kernel
theorem dL_law_883 : decode cL_law 883 = .ok (.sipush 999, 3) := by decide +kernel
theorem dL_law_886 : decode cL_law 886 = .ok (.if_icmp .ne 7, 3) := by decide +kernel
theorem dL_law_889 : decode cL_law 889 = .ok (.iconst 5, 1) := by decide +kernel
theorem dL_law_890 : decode cL_law 890 = .ok (.goto 7, 3) := by decide +kernel
theorem dL_law_893 : decode cL_law 893 = .ok (.iload 17, 2) := by decide +kernel
theorem dL_law_895 : decode cL_law 895 = .ok (.iconst 1, 1) := by decide +kernel
theorem dL_law_896 : decode cL_law 896 = .ok (.iadd, 1) := by decide +kernel
theorem dL_law_897 : decode cL_law 897 = .ok (.invokestatic 75, 3) := by decide +kernel
theorem dL_law_900 : decode cL_law 900 = .ok (.iload 17, 2) := by decide +kernel
theorem dL_law_902 : decode cL_law 902 = .ok (.if_icmp .ne 27, 3) := by decide +kernel
theorem dL_law_905 : decode cL_law 905 = .ok (.aload_n 1, 1) := by decide +kernel
theorem dL_law_906 : decode cL_law 906 = .ok (.iload 12, 2) := by decide +kernel
theorem dL_law_908 : decode cL_law 908 = .ok (.invokevirtual 54, 3) := by decide +kernel
theorem dL_law_911 : decode cL_law 911 = .ok (.iload 16, 2) := by decide +kernel
theorem dL_law_913 : decode cL_law 913 = .ok (.if_icmp .ne 16, 3) := by decide +kernel
theorem dL_law_916 : decode cL_law 916 = .ok (.aload_n 1, 1) := by decide +kernel
theorem dL_law_917 : decode cL_law 917 = .ok (.iload 12, 2) := by decide +kernel
theorem dL_law_919 : decode cL_law 919 = .ok (.invokevirtual 78, 3) := by decide +kernel
theorem dL_law_922 : decode cL_law 922 = .ok (.ifCond .ne 7, 3) := by decide +kernel
theorem dL_law_925 : decode cL_law 925 = .ok (.iconst 1, 1) := by decide +kernel
theorem dL_law_926 : decode cL_law 926 = .ok (.goto 4, 3) := by decide +kernel
theorem dL_law_929 : decode cL_law 929 = .ok (.iconst 0, 1) := by decide +kernel
theorem dL_law_930 : decode cL_law 930 = .ok (.istore 6, 2) := by decide +kernel
theorem dL_law_932 : decode cL_law 932 = .ok (.aload_n 3, 1) := by decide +kernel
theorem dL_law_933 : decode cL_law 933 = .ok (.iload 12, 2) := by decide +kernel
theorem dL_law_935 : decode cL_law 935 = .ok (.iload 16, 2) := by decide +kernel
theorem dL_law_937 : decode cL_law 937 = .ok (.iconst 1, 1) := by decide +kernel
theorem dL_law_938 : decode cL_law 938 = .ok (.iadd, 1) := by decide +kernel
theorem dL_law_939 : decode cL_law 939 = .ok (.iastore, 1) := by decide +kernel
theorem dL_law_940 : decode cL_law 940 = .ok (.goto 105, 3) := by decide +kernel
theorem dL_law_943 : decode cL_law 943 = .ok (.iload 11, 2) := by decide +kernel
theorem dL_law_945 : decode cL_law 945 = .ok (.bipush 30, 2) := by decide +kernel
theorem dL_law_947 : decode cL_law 947 = .ok (.if_icmp .ge 98, 3) := by decide +kernel
theorem dL_law_950 : decode cL_law 950 = .ok (.aload_n 3, 1) := by decide +kernel
theorem dL_law_951 : decode cL_law 951 = .ok (.iload 12, 2) := by decide +kernel
theorem dL_law_953 : decode cL_law 953 = .ok (.iaload, 1) := by decide +kernel
theorem dL_law_954 : decode cL_law 954 = .ok (.ifCond .ne 9, 3) := by decide +kernel
theorem dL_law_957 : decode cL_law 957 = .ok (.sipush (-1013), 3) := by decide +kernel
theorem dL_law_960 : decode cL_law 960 = .ok (.goto 18, 3) := by decide +kernel
theorem dL_law_963 : decode cL_law 963 = .ok (.aload_n 1, 1) := by decide +kernel
theorem dL_law_964 : decode cL_law 964 = .ok (.bipush 7, 2) := by decide +kernel
theorem dL_law_966 : decode cL_law 966 = .ok (.iload 12, 2) := by decide +kernel
theorem dL_law_968 : decode cL_law 968 = .ok (.aload_n 3, 1) := by decide +kernel
theorem dL_law_969 : decode cL_law 969 = .ok (.iload 12, 2) := by decide +kernel
theorem dL_law_971 : decode cL_law 971 = .ok (.iaload, 1) := by decide +kernel
theorem dL_law_972 : decode cL_law 972 = .ok (.iconst 1, 1) := by decide +kernel
theorem dL_law_973 : decode cL_law 973 = .ok (.isub, 1) := by decide +kernel
theorem dL_law_974 : decode cL_law 974 = .ok (.iconst 0, 1) := by decide +kernel
theorem dL_law_975 : decode cL_law 975 = .ok (.invokestatic 75, 3) := by decide +kernel
theorem dL_law_978 : decode cL_law 978 = .ok (.istore 16, 2) := by decide +kernel
theorem dL_law_980 : decode cL_law 980 = .ok (.aload_n 3, 1) := by decide +kernel
theorem dL_law_981 : decode cL_law 981 = .ok (.iload 12, 2) := by decide +kernel
theorem dL_law_983 : decode cL_law 983 = .ok (.iaload, 1) := by decide +kernel
theorem dL_law_984 : decode cL_law 984 = .ok (.ifCond .ne 27, 3) := by decide +kernel
theorem dL_law_987 : decode cL_law 987 = .ok (.aload_n 1, 1) := by decide +kernel
theorem dL_law_988 : decode cL_law 988 = .ok (.bipush 7, 2) := by decide +kernel
theorem dL_law_990 : decode cL_law 990 = .ok (.iload 12, 2) := by decide +kernel
theorem dL_law_992 : decode cL_law 992 = .ok (.iconst 0, 1) := by decide +kernel
theorem dL_law_993 : decode cL_law 993 = .ok (.iconst 0, 1) := by decide +kernel
theorem dL_law_994 : decode cL_law 994 = .ok (.invokestatic 75, 3) := by decide +kernel
theorem dL_law_997 : decode cL_law 997 = .ok (.sipush (-1013), 3) := by decide +kernel
theorem dL_law_1000 : decode cL_law 1000 = .ok (.if_icmp .ne 7, 3) := by decide +kernel
theorem dL_law_1003 : decode cL_law 1003 = .ok (.iconst 1, 1) := by decide +kernel
theorem dL_law_1004 : decode cL_law 1004 = .ok (.goto 34, 3) := by decide +kernel
theorem dL_law_1007 : decode cL_law 1007 = .ok (.iconst 0, 1) := by decide +kernel
theorem dL_law_1008 : decode cL_law 1008 = .ok (.goto 30, 3) := by decide +kernel
theorem dL_law_1011 : decode cL_law 1011 = .ok (.iload 16, 2) := by decide +kernel
theorem dL_law_1013 : decode cL_law 1013 = .ok (.ifCond .lt 24, 3) := by decide +kernel
theorem dL_law_1016 : decode cL_law 1016 = .ok (.iload 16, 2) := by decide +kernel
theorem dL_law_1018 : decode cL_law 1018 = .ok (.bipush 7, 2) := by decide +kernel
theorem dL_law_1020 : decode cL_law 1020 = .ok (.if_icmp .ge 17, 3) := by decide +kernel
theorem dL_law_1023 : decode cL_law 1023 = .ok (.aload_n 1, 1) := by decide +kernel
theorem dL_law_1024 : decode cL_law 1024 = .ok (.iload 12, 2) := by decide +kernel
theorem dL_law_1026 : decode cL_law 1026 = .ok (.invokevirtual 54, 3) := by decide +kernel
theorem dL_law_1029 : decode cL_law 1029 = .ok (.iconst (-1), 1) := by decide +kernel
theorem dL_law_1030 : decode cL_law 1030 = .ok (.if_icmp .ne 7, 3) := by decide +kernel
theorem dL_law_1033 : decode cL_law 1033 = .ok (.iconst 1, 1) := by decide +kernel
theorem dL_law_1034 : decode cL_law 1034 = .ok (.goto 4, 3) := by decide +kernel
theorem dL_law_1037 : decode cL_law 1037 = .ok (.iconst 0, 1) := by decide +kernel
theorem dL_law_1038 : decode cL_law 1038 = .ok (.istore 6, 2) := by decide +kernel
theorem dL_law_1040 : decode cL_law 1040 = .ok (.aload_n 3, 1) := by decide +kernel
theorem dL_law_1041 : decode cL_law 1041 = .ok (.iload 12, 2) := by decide +kernel
theorem dL_law_1043 : decode cL_law 1043 = .ok (.iconst 0, 1) := by decide +kernel
theorem dL_law_1044 : decode cL_law 1044 = .ok (.iastore, 1) := by decide +kernel
theorem dL_law_1045 : decode cL_law 1045 = .ok (.iconst 1, 1) := by decide +kernel
theorem dL_law_1046 : decode cL_law 1046 = .ok (.istore 16, 2) := by decide +kernel
theorem dL_law_1048 : decode cL_law 1048 = .ok (.iconst 0, 1) := by decide +kernel
theorem dL_law_1049 : decode cL_law 1049 = .ok (.istore 17, 2) := by decide +kernel
theorem dL_law_1051 : decode cL_law 1051 = .ok (.iload 17, 2) := by decide +kernel
theorem dL_law_1053 : decode cL_law 1053 = .ok (.bipush 14, 2) := by decide +kernel
theorem dL_law_1055 : decode cL_law 1055 = .ok (.if_icmp .ge 28, 3) := by decide +kernel
theorem dL_law_1058 : decode cL_law 1058 = .ok (.iload 16, 2) := by decide +kernel
theorem dL_law_1060 : decode cL_law 1060 = .ok (.ifCond .eq 14, 3) := by decide +kernel
theorem dL_law_1063 : decode cL_law 1063 = .ok (.aload_n 3, 1) := by decide +kernel
theorem dL_law_1064 : decode cL_law 1064 = .ok (.iload 17, 2) := by decide +kernel
theorem dL_law_1066 : decode cL_law 1066 = .ok (.iaload, 1) := by decide +kernel
theorem dL_law_1067 : decode cL_law 1067 = .ok (.ifCond .ne 7, 3) := by decide +kernel
theorem dL_law_1070 : decode cL_law 1070 = .ok (.iconst 1, 1) := by decide +kernel
theorem dL_law_1071 : decode cL_law 1071 = .ok (.goto 4, 3) := by decide +kernel
theorem dL_law_1074 : decode cL_law 1074 = .ok (.iconst 0, 1) := by decide +kernel
theorem dL_law_1075 : decode cL_law 1075 = .ok (.istore 16, 2) := by decide +kernel
theorem dL_law_1077 : decode cL_law 1077 = .ok (.iinc 17 1, 3) := by decide +kernel
theorem dL_law_1080 : decode cL_law 1080 = .ok (.goto (-29), 3) := by decide +kernel
theorem dL_law_1083 : decode cL_law 1083 = .ok (.iconst 0, 1) := by decide +kernel
theorem dL_law_1084 : decode cL_law 1084 = .ok (.istore 17, 2) := by decide +kernel
theorem dL_law_1086 : decode cL_law 1086 = .ok (.iconst 0, 1) := by decide +kernel
theorem dL_law_1087 : decode cL_law 1087 = .ok (.istore 18, 2) := by decide +kernel
theorem dL_law_1089 : decode cL_law 1089 = .ok (.iload 18, 2) := by decide +kernel
theorem dL_law_1091 : decode cL_law 1091 = .ok (.bipush 7, 2) := by decide +kernel
theorem dL_law_1093 : decode cL_law 1093 = .ok (.if_icmp .ge 20, 3) := by decide +kernel
theorem dL_law_1096 : decode cL_law 1096 = .ok (.iload 17, 2) := by decide +kernel
theorem dL_law_1098 : decode cL_law 1098 = .ok (.aload_n 1, 1) := by decide +kernel
theorem dL_law_1099 : decode cL_law 1099 = .ok (.iload 18, 2) := by decide +kernel
theorem dL_law_1101 : decode cL_law 1101 = .ok (.invokevirtual 81, 3) := by decide +kernel
theorem dL_law_1104 : decode cL_law 1104 = .ok (.iadd, 1) := by decide +kernel
theorem dL_law_1105 : decode cL_law 1105 = .ok (.istore 17, 2) := by decide +kernel
theorem dL_law_1107 : decode cL_law 1107 = .ok (.iinc 18 1, 3) := by decide +kernel
theorem dL_law_1110 : decode cL_law 1110 = .ok (.goto (-21), 3) := by decide +kernel
theorem dL_law_1113 : decode cL_law 1113 = .ok (.iload 6, 2) := by decide +kernel
theorem dL_law_1115 : decode cL_law 1115 = .ok (.ifCond .eq 60, 3) := by decide +kernel
theorem dL_law_1118 : decode cL_law 1118 = .ok (.iload 17, 2) := by decide +kernel
theorem dL_law_1120 : decode cL_law 1120 = .ok (.iload 5, 2) := by decide +kernel
theorem dL_law_1122 : decode cL_law 1122 = .ok (.if_icmp .lt 53, 3) := by decide +kernel
theorem dL_law_1125 : decode cL_law 1125 = .ok (.aload_n 1, 1) := by decide +kernel
theorem dL_law_1126 : decode cL_law 1126 = .ok (.iload 12, 2) := by decide +kernel
theorem dL_law_1128 : decode cL_law 1128 = .ok (.invokestatic 84, 3) := by decide +kernel
theorem dL_law_1131 : decode cL_law 1131 = .ok (.ifCond .eq 44, 3) := by decide +kernel
theorem dL_law_1134 : decode cL_law 1134 = .ok (.aload_n 1, 1) := by decide +kernel
theorem dL_law_1135 : decode cL_law 1135 = .ok (.iload 13, 2) := by decide +kernel
theorem dL_law_1137 : decode cL_law 1137 = .ok (.invokestatic 84, 3) := by decide +kernel
theorem dL_law_1140 : decode cL_law 1140 = .ok (.ifCond .eq 35, 3) := by decide +kernel
theorem dL_law_1143 : decode cL_law 1143 = .ok (.iload 8, 2) := by decide +kernel
theorem dL_law_1145 : decode cL_law 1145 = .ok (.iconst 3, 1) := by decide +kernel
theorem dL_law_1146 : decode cL_law 1146 = .ok (.irem, 1) := by decide +kernel
theorem dL_law_1147 : decode cL_law 1147 = .ok (.ifCond .gt 24, 3) := by decide +kernel
theorem dL_law_1150 : decode cL_law 1150 = .ok (.aload_n 1, 1) := by decide +kernel
theorem dL_law_1151 : decode cL_law 1151 = .ok (.iload 4, 2) := by decide +kernel
theorem dL_law_1153 : decode cL_law 1153 = .ok (.aload_n 2, 1) := by decide +kernel
theorem dL_law_1154 : decode cL_law 1154 = .ok (.iload 16, 2) := by decide +kernel
theorem dL_law_1156 : decode cL_law 1156 = .ok (.invokestatic 88, 3) := by decide +kernel
theorem dL_law_1159 : decode cL_law 1159 = .ok (.ifCond .eq 16, 3) := by decide +kernel
theorem dL_law_1162 : decode cL_law 1162 = .ok (.aload_n 1, 1) := by decide +kernel
theorem dL_law_1163 : decode cL_law 1163 = .ok (.iload 4, 2) := by decide +kernel
theorem dL_law_1165 : decode cL_law 1165 = .ok (.invokestatic 92, 3) := by decide +kernel
theorem dL_law_1168 : decode cL_law 1168 = .ok (.ifCond .eq 7, 3) := by decide +kernel
theorem dL_law_1171 : decode cL_law 1171 = .ok (.iconst 1, 1) := by decide +kernel
theorem dL_law_1172 : decode cL_law 1172 = .ok (.goto 4, 3) := by decide +kernel
theorem dL_law_1175 : decode cL_law 1175 = .ok (.iconst 0, 1) := by decide +kernel
theorem dL_law_1176 : decode cL_law 1176 = .ok (.istore 6, 2) := by decide +kernel
theorem dL_law_1178 : decode cL_law 1178 = .ok (.iload 17, 2) := by decide +kernel
theorem dL_law_1180 : decode cL_law 1180 = .ok (.istore 5, 2) := by decide +kernel
theorem dL_law_1182 : decode cL_law 1182 = .ok (.iinc 8 1, 3) := by decide +kernel
theorem dL_law_1185 : decode cL_law 1185 = .ok (.goto (-1124), 3) := by decide +kernel
theorem dL_law_1188 : decode cL_law 1188 = .ok (.iload 6, 2) := by decide +kernel
theorem dL_law_1190 : decode cL_law 1190 = .ok (.ireturn, 1) := by decide +kernel
