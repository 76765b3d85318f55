theorem dX9_serve_10 : decode cX9_serve 10 = .ok (.iload_n 2, 1) := by decide +kernel
theorem dX9_serve_11 : decode cX9_serve 11 = .ok (.iaload, 1) := by decide +kernel
theorem dX9_serve_12 : decode cX9_serve 12 = .ok (.istore_n 3, 1) := by decide +kernel
theorem dX9_serve_13 : decode cX9_serve 13 = .ok (.aload_n 0, 1) := by decide +kernel
theorem dX9_serve_14 : decode cX9_serve 14 = .ok (.getfield 16, 3) := by decide +kernel
theorem dX9_serve_17 : decode cX9_serve 17 = .ok (.iload_n 1, 1) := by decide +kernel
theorem dX9_serve_18 : decode cX9_serve 18 = .ok (.baload, 1) := by decide +kernel
theorem dX9_serve_19 : decode cX9_serve 19 = .ok (.ifCond .eq 4, 3) := by decide +kernel
theorem dX9_serve_22 : decode cX9_serve 22 = .ok (.return_, 1) := by decide +kernel
theorem dX9_serve_23 : decode cX9_serve 23 = .ok (.iload_n 1, 1) := by decide +kernel
theorem dX9_serve_24 : decode cX9_serve 24 = .ok (.ifCond .ne 52, 3) := by decide +kernel
theorem dX9_serve_27 : decode cX9_serve 27 = .ok (.iload_n 3, 1) := by decide +kernel
theorem dX9_serve_28 : decode cX9_serve 28 = .ok (.ifCond .ge 203, 3) := by decide +kernel
theorem dX9_serve_31 : decode cX9_serve 31 = .ok (.aload_n 0, 1) := by decide +kernel
theorem dX9_serve_32 : decode cX9_serve 32 = .ok (.getfield 70, 3) := by decide +kernel
theorem dX9_serve_35 : decode cX9_serve 35 = .ok (.aload_n 0, 1) := by decide +kernel
theorem dX9_serve_36 : decode cX9_serve 36 = .ok (.getfield 73, 3) := by decide +kernel
theorem dX9_serve_39 : decode cX9_serve 39 = .ok (.if_icmp .ge 192, 3) := by decide +kernel
theorem dX9_serve_42 : decode cX9_serve 42 = .ok (.aload_n 0, 1) := by decide +kernel
theorem dX9_serve_43 : decode cX9_serve 43 = .ok (.getfield 7, 3) := by decide +kernel
theorem dX9_serve_46 : decode cX9_serve 46 = .ok (.iload_n 2, 1) := by decide +kernel
theorem dX9_serve_47 : decode cX9_serve 47 = .ok (.aload_n 0, 1) := by decide +kernel
theorem dX9_serve_48 : decode cX9_serve 48 = .ok (.getfield 70, 3) := by decide +kernel
theorem dX9_serve_51 : decode cX9_serve 51 = .ok (.iastore, 1) := by decide +kernel
theorem dX9_serve_52 : decode cX9_serve 52 = .ok (.aload_n 0, 1) := by decide +kernel
theorem dX9_serve_53 : decode cX9_serve 53 = .ok (.getfield 47, 3) := by decide +kernel
theorem dX9_serve_56 : decode cX9_serve 56 = .ok (.aload_n 0, 1) := by decide +kernel
theorem dX9_serve_57 : decode cX9_serve 57 = .ok (.getfield 70, 3) := by decide +kernel
theorem dX9_serve_60 : decode cX9_serve 60 = .ok (.bipush 108, 2) := by decide +kernel
theorem dX9_serve_62 : decode cX9_serve 62 = .ok (.castore, 1) := by decide +kernel
theorem dX9_serve_63 : decode cX9_serve 63 = .ok (.aload_n 0, 1) := by decide +kernel
theorem dX9_serve_64 : decode cX9_serve 64 = .ok (.dup, 1) := by decide +kernel
theorem dX9_serve_65 : decode cX9_serve 65 = .ok (.getfield 70, 3) := by decide +kernel
theorem dX9_serve_68 : decode cX9_serve 68 = .ok (.iconst 1, 1) := by decide +kernel
theorem dX9_serve_69 : decode cX9_serve 69 = .ok (.iadd, 1) := by decide +kernel
theorem dX9_serve_70 : decode cX9_serve 70 = .ok (.putfield 70, 3) := by decide +kernel
theorem dX9_serve_73 : decode cX9_serve 73 = .ok (.goto 158, 3) := by decide +kernel
theorem dX9_serve_76 : decode cX9_serve 76 = .ok (.iload_n 3, 1) := by decide +kernel
theorem dX9_serve_77 : decode cX9_serve 77 = .ok (.ifCond .lt 53, 3) := by decide +kernel
theorem dX9_serve_80 : decode cX9_serve 80 = .ok (.iload_n 1, 1) := by decide +kernel
theorem dX9_serve_81 : decode cX9_serve 81 = .ok (.aload_n 0, 1) := by decide +kernel
theorem dX9_serve_82 : decode cX9_serve 82 = .ok (.getfield 54, 3) := by decide +kernel
theorem dX9_serve_85 : decode cX9_serve 85 = .ok (.iconst 1, 1) := by decide +kernel
theorem dX9_serve_86 : decode cX9_serve 86 = .ok (.isub, 1) := by decide +kernel
theorem dX9_serve_87 : decode cX9_serve 87 = .ok (.if_icmp .ne 43, 3) := by decide +kernel
theorem dX9_serve_90 : decode cX9_serve 90 = .ok (.aload_n 0, 1) := by decide +kernel
theorem dX9_serve_91 : decode cX9_serve 91 = .ok (.getfield 44, 3) := by decide +kernel
theorem dX9_serve_94 : decode cX9_serve 94 = .ok (.iload_n 3, 1) := by decide +kernel
theorem dX9_serve_95 : decode cX9_serve 95 = .ok (.iaload, 1) := by decide +kernel
theorem dX9_serve_96 : decode cX9_serve 96 = .ok (.aload_n 0, 1) := by decide +kernel
theorem dX9_serve_97 : decode cX9_serve 97 = .ok (.getfield 34, 3) := by decide +kernel
theorem dX9_serve_100 : decode cX9_serve 100 = .ok (.if_icmp .lt 30, 3) := by decide +kernel
theorem dX9_serve_103 : decode cX9_serve 103 = .ok (.aload_n 0, 1) := by decide +kernel
theorem dX9_serve_104 : decode cX9_serve 104 = .ok (.iload_n 3, 1) := by decide +kernel
theorem dX9_serve_105 : decode cX9_serve 105 = .ok (.bipush 111, 2) := by decide +kernel
theorem dX9_serve_107 : decode cX9_serve 107 = .ok (.invokevirtual 76, 3) := by decide +kernel
theorem dX9_serve_110 : decode cX9_serve 110 = .ok (.aload_n 0, 1) := by decide +kernel
theorem dX9_serve_111 : decode cX9_serve 111 = .ok (.dup, 1) := by decide +kernel
theorem dX9_serve_112 : decode cX9_serve 112 = .ok (.getfield 80, 3) := by decide +kernel
theorem dX9_serve_115 : decode cX9_serve 115 = .ok (.iconst 1, 1) := by decide +kernel
theorem dX9_serve_116 : decode cX9_serve 116 = .ok (.iadd, 1) := by decide +kernel
theorem dX9_serve_117 : decode cX9_serve 117 = .ok (.putfield 80, 3) := by decide +kernel
theorem dX9_serve_120 : decode cX9_serve 120 = .ok (.aload_n 0, 1) := by decide +kernel
theorem dX9_serve_121 : decode cX9_serve 121 = .ok (.getfield 7, 3) := by decide +kernel
theorem dX9_serve_124 : decode cX9_serve 124 = .ok (.iload_n 2, 1) := by decide +kernel
theorem dX9_serve_125 : decode cX9_serve 125 = .ok (.iconst (-1), 1) := by decide +kernel
theorem dX9_serve_126 : decode cX9_serve 126 = .ok (.iastore, 1) := by decide +kernel
theorem dX9_serve_127 : decode cX9_serve 127 = .ok (.goto 104, 3) := by decide +kernel
theorem dX9_serve_130 : decode cX9_serve 130 = .ok (.iload_n 3, 1) := by decide +kernel
theorem dX9_serve_131 : decode cX9_serve 131 = .ok (.ifCond .lt 100, 3) := by decide +kernel
theorem dX9_serve_134 : decode cX9_serve 134 = .ok (.aload_n 0, 1) := by decide +kernel
theorem dX9_serve_135 : decode cX9_serve 135 = .ok (.getfield 13, 3) := by decide +kernel
theorem dX9_serve_138 : decode cX9_serve 138 = .ok (.iload_n 1, 1) := by decide +kernel
theorem dX9_serve_139 : decode cX9_serve 139 = .ok (.iaload, 1) := by decide +kernel
theorem dX9_serve_140 : decode cX9_serve 140 = .ok (.ifCond .lt 91, 3) := by decide +kernel
theorem dX9_serve_143 : decode cX9_serve 143 = .ok (.aload_n 0, 1) := by decide +kernel
theorem dX9_serve_144 : decode cX9_serve 144 = .ok (.getfield 31, 3) := by decide +kernel
theorem dX9_serve_147 : decode cX9_serve 147 = .ok (.aload_n 0, 1) := by decide +kernel
theorem dX9_serve_148 : decode cX9_serve 148 = .ok (.getfield 38, 3) := by decide +kernel
theorem dX9_serve_151 : decode cX9_serve 151 = .ok (.iload_n 3, 1) := by decide +kernel
theorem dX9_serve_152 : decode cX9_serve 152 = .ok (.iaload, 1) := by decide +kernel
theorem dX9_serve_153 : decode cX9_serve 153 = .ok (.iaload, 1) := by decide +kernel
theorem dX9_serve_154 : decode cX9_serve 154 = .ok (.aload_n 0, 1) := by decide +kernel
theorem dX9_serve_155 : decode cX9_serve 155 = .ok (.getfield 13, 3) := by decide +kernel
theorem dX9_serve_158 : decode cX9_serve 158 = .ok (.iload_n 1, 1) := by decide +kernel
theorem dX9_serve_159 : decode cX9_serve 159 = .ok (.iaload, 1) := by decide +kernel
theorem dX9_serve_160 : decode cX9_serve 160 = .ok (.if_icmp .ne 71, 3) := by decide +kernel
theorem dX9_serve_163 : decode cX9_serve 163 = .ok (.aload_n 0, 1) := by decide +kernel
theorem dX9_serve_164 : decode cX9_serve 164 = .ok (.getfield 28, 3) := by decide +kernel
theorem dX9_serve_167 : decode cX9_serve 167 = .ok (.aload_n 0, 1) := by decide +kernel
theorem dX9_serve_168 : decode cX9_serve 168 = .ok (.getfield 13, 3) := by decide +kernel
theorem dX9_serve_171 : decode cX9_serve 171 = .ok (.iload_n 1, 1) := by decide +kernel
theorem dX9_serve_172 : decode cX9_serve 172 = .ok (.iaload, 1) := by decide +kernel
theorem dX9_serve_173 : decode cX9_serve 173 = .ok (.iaload, 1) := by decide +kernel
theorem dX9_serve_174 : decode cX9_serve 174 = .ok (.aload_n 0, 1) := by decide +kernel
theorem dX9_serve_175 : decode cX9_serve 175 = .ok (.getfield 20, 3) := by decide +kernel
theorem dX9_serve_178 : decode cX9_serve 178 = .ok (.aload_n 0, 1) := by decide +kernel
theorem dX9_serve_179 : decode cX9_serve 179 = .ok (.getfield 13, 3) := by decide +kernel
theorem dX9_serve_182 : decode cX9_serve 182 = .ok (.iload_n 1, 1) := by decide +kernel
theorem dX9_serve_183 : decode cX9_serve 183 = .ok (.iaload, 1) := by decide +kernel
theorem dX9_serve_184 : decode cX9_serve 184 = .ok (.iaload, 1) := by decide +kernel
theorem dX9_serve_185 : decode cX9_serve 185 = .ok (.if_icmp .ge 46, 3) := by decide +kernel
theorem dX9_serve_188 : decode cX9_serve 188 = .ok (.aload_n 0, 1) := by decide +kernel
theorem dX9_serve_189 : decode cX9_serve 189 = .ok (.getfield 13, 3) := by decide +kernel
theorem dX9_serve_192 : decode cX9_serve 192 = .ok (.iload_n 1, 1) := by decide +kernel
theorem dX9_serve_193 : decode cX9_serve 193 = .ok (.iaload, 1) := by decide +kernel
theorem dX9_serve_194 : decode cX9_serve 194 = .ok (.istore 4, 2) := by decide +kernel
theorem dX9_serve_196 : decode cX9_serve 196 = .ok (.aload_n 0, 1) := by decide +kernel
theorem dX9_serve_197 : decode cX9_serve 197 = .ok (.getfield 25, 3) := by decide +kernel
theorem dX9_serve_200 : decode cX9_serve 200 = .ok (.iload 4, 2) := by decide +kernel
theorem dX9_serve_202 : decode cX9_serve 202 = .ok (.aaload, 1) := by decide +kernel
theorem dX9_serve_203 : decode cX9_serve 203 = .ok (.aload_n 0, 1) := by decide +kernel
theorem dX9_serve_204 : decode cX9_serve 204 = .ok (.getfield 28, 3) := by decide +kernel
theorem dX9_serve_207 : decode cX9_serve 207 = .ok (.iload 4, 2) := by decide +kernel
theorem dX9_serve_209 : decode cX9_serve 209 = .ok (.dup2, 1) := by decide +kernel
theorem dX9_serve_210 : decode cX9_serve 210 = .ok (.iaload, 1) := by decide +kernel
theorem dX9_serve_211 : decode cX9_serve 211 = .ok (.dup_x2, 1) := by decide +kernel
theorem dX9_serve_212 : decode cX9_serve 212 = .ok (.iconst 1, 1) := by decide +kernel
theorem dX9_serve_213 : decode cX9_serve 213 = .ok (.iadd, 1) := by decide +kernel
theorem dX9_serve_214 : decode cX9_serve 214 = .ok (.iastore, 1) := by decide +kernel
theorem dX9_serve_215 : decode cX9_serve 215 = .ok (.iload_n 3, 1) := by decide +kernel
theorem dX9_serve_216 : decode cX9_serve 216 = .ok (.iastore, 1) := by decide +kernel
theorem dX9_serve_217 : decode cX9_serve 217 = .ok (.aload_n 0, 1) := by decide +kernel
theorem dX9_serve_218 : decode cX9_serve 218 = .ok (.iload_n 3, 1) := by decide +kernel
theorem dX9_serve_219 : decode cX9_serve 219 = .ok (.bipush 99, 2) := by decide +kernel
theorem dX9_serve_221 : decode cX9_serve 221 = .ok (.invokevirtual 76, 3) := by decide +kernel
theorem dX9_serve_224 : decode cX9_serve 224 = .ok (.aload_n 0, 1) := by decide +kernel
theorem dX9_serve_225 : decode cX9_serve 225 = .ok (.getfield 7, 3) := by decide +kernel
theorem dX9_serve_228 : decode cX9_serve 228 = .ok (.iload_n 2, 1) := by decide +kernel
theorem dX9_serve_229 : decode cX9_serve 229 = .ok (.iconst (-1), 1) := by decide +kernel
theorem dX9_serve_230 : decode cX9_serve 230 = .ok (.iastore, 1) := by decide +kernel
theorem dX9_serve_231 : decode cX9_serve 231 = .ok (.return_, 1) := by decide +kernel
theorem dX9_tick_0 : decode cX9_tick 0 = .ok (.aload_n 0, 1) := by decide +kernel
theorem dX9_tick_1 : decode cX9_tick 1 = .ok (.getfield 60, 3) := by decide +kernel
theorem dX9_tick_4 : decode cX9_tick 4 = .ok (.istore_n 1, 1) := by decide +kernel
theorem dX9_tick_5 : decode cX9_tick 5 = .ok (.aload_n 0, 1) := by decide +kernel
theorem dX9_tick_6 : decode cX9_tick 6 = .ok (.dup, 1) := by decide +kernel
theorem dX9_tick_7 : decode cX9_tick 7 = .ok (.getfield 57, 3) := by decide +kernel
theorem dX9_tick_10 : decode cX9_tick 10 = .ok (.iconst 1, 1) := by decide +kernel
theorem dX9_tick_11 : decode cX9_tick 11 = .ok (.iadd, 1) := by decide +kernel
theorem dX9_tick_12 : decode cX9_tick 12 = .ok (.putfield 57, 3) := by decide +kernel
theorem dX9_tick_15 : decode cX9_tick 15 = .ok (.aload_n 0, 1) := by decide +kernel
theorem dX9_tick_16 : decode cX9_tick 16 = .ok (.getfield 7, 3) := by decide +kernel
theorem dX9_tick_19 : decode cX9_tick 19 = .ok (.aload_n 0, 1) := by decide +kernel
theorem dX9_tick_20 : decode cX9_tick 20 = .ok (.iconst 0, 1) := by decide +kernel
theorem dX9_tick_21 : decode cX9_tick 21 = .ok (.invokevirtual 66, 3) := by decide +kernel
theorem dX9_tick_24 : decode cX9_tick 24 = .ok (.iaload, 1) := by decide +kernel
theorem dX9_tick_25 : decode cX9_tick 25 = .ok (.istore_n 2, 1) := by decide +kernel
theorem dX9_tick_26 : decode cX9_tick 26 = .ok (.aload_n 0, 1) := by decide +kernel
theorem dX9_tick_27 : decode cX9_tick 27 = .ok (.getfield 44, 3) := by decide +kernel
theorem dX9_tick_30 : decode cX9_tick 30 = .ok (.iload_n 2, 1) := by decide +kernel
theorem dX9_tick_31 : decode cX9_tick 31 = .ok (.iconst 0, 1) := by decide +kernel
theorem dX9_tick_32 : decode cX9_tick 32 = .ok (.invokestatic 83, 3) := by decide +kernel
theorem dX9_tick_35 : decode cX9_tick 35 = .ok (.dup2, 1) := by decide +kernel
theorem dX9_tick_36 : decode cX9_tick 36 = .ok (.iaload, 1) := by decide +kernel
theorem dX9_tick_37 : decode cX9_tick 37 = .ok (.iload_n 2, 1) := by decide +kernel
theorem dX9_tick_38 : decode cX9_tick 38 = .ok (.ifCond .ge 7, 3) := by decide +kernel
theorem dX9_tick_41 : decode cX9_tick 41 = .ok (.iconst 0, 1) := by decide +kernel
theorem dX9_tick_42 : decode cX9_tick 42 = .ok (.goto 4, 3) := by decide +kernel
theorem dX9_tick_45 : decode cX9_tick 45 = .ok (.iconst 1, 1) := by decide +kernel
theorem dX9_tick_46 : decode cX9_tick 46 = .ok (.iadd, 1) := by decide +kernel
theorem dX9_tick_47 : decode cX9_tick 47 = .ok (.iastore, 1) := by decide +kernel
theorem dX9_tick_48 : decode cX9_tick 48 = .ok (.iconst 0, 1) := by decide +kernel
theorem dX9_tick_49 : decode cX9_tick 49 = .ok (.istore_n 3, 1) := by decide +kernel
theorem dX9_tick_50 : decode cX9_tick 50 = .ok (.iload_n 3, 1) := by decide +kernel
theorem dX9_tick_51 : decode cX9_tick 51 = .ok (.aload_n 0, 1) := by decide +kernel
theorem dX9_tick_52 : decode cX9_tick 52 = .ok (.getfield 54, 3) := by decide +kernel
theorem dX9_tick_55 : decode cX9_tick 55 = .ok (.if_icmp .ge 14, 3) := by decide +kernel
theorem dX9_tick_58 : decode cX9_tick 58 = .ok (.aload_n 0, 1) := by decide +kernel
theorem dX9_tick_59 : decode cX9_tick 59 = .ok (.iload_n 3, 1) := by decide +kernel
theorem dX9_tick_60 : decode cX9_tick 60 = .ok (.invokevirtual 89, 3) := by decide +kernel
theorem dX9_tick_63 : decode cX9_tick 63 = .ok (.iinc 3 1, 3) := by decide +kernel
theorem dX9_tick_66 : decode cX9_tick 66 = .ok (.goto (-16), 3) := by decide +kernel
theorem dX9_tick_69 : decode cX9_tick 69 = .ok (.aload_n 0, 1) := by decide +kernel
theorem dX9_tick_70 : decode cX9_tick 70 = .ok (.getfield 60, 3) := by decide +kernel
theorem dX9_tick_73 : decode cX9_tick 73 = .ok (.iload_n 1, 1) := by decide +kernel
theorem dX9_tick_74 : decode cX9_tick 74 = .ok (.isub, 1) := by decide +kernel
theorem dX9_tick_75 : decode cX9_tick 75 = .ok (.ireturn, 1) := by decide +kernel
theorem dX9_seal_0 : decode cX9_seal 0 = .ok (.lconst 0, 1) := by decide +kernel
theorem dX9_seal_1 : decode cX9_seal 1 = .ok (.lstore_n 2, 1) := by decide +kernel
theorem dX9_seal_2 : decode cX9_seal 2 = .ok (.lconst 0, 1) := by decide +kernel
theorem dX9_seal_3 : decode cX9_seal 3 = .ok (.lstore 4, 2) := by decide +kernel
theorem dX9_seal_5 : decode cX9_seal 5 = .ok (.iconst 0, 1) := by decide +kernel
theorem dX9_seal_6 : decode cX9_seal 6 = .ok (.istore 6, 2) := by decide +kernel
theorem dX9_seal_8 : decode cX9_seal 8 = .ok (.iload 6, 2) := by decide +kernel
theorem dX9_seal_10 : decode cX9_seal 10 = .ok (.aload_n 0, 1) := by decide +kernel
theorem dX9_seal_11 : decode cX9_seal 11 = .ok (.getfield 28, 3) := by decide +kernel
theorem dX9_seal_14 : decode cX9_seal 14 = .ok (.iload_n 1, 1) := by decide +kernel
theorem dX9_seal_15 : decode cX9_seal 15 = .ok (.iaload, 1) := by decide +kernel
theorem dX9_seal_16 : decode cX9_seal 16 = .ok (.if_icmp .ge 30, 3) := by decide +kernel
theorem dX9_seal_19 : decode cX9_seal 19 = .ok (.lload_n 2, 1) := by decide +kernel
theorem dX9_seal_20 : decode cX9_seal 20 = .ok (.aload_n 0, 1) := by decide +kernel
theorem dX9_seal_21 : decode cX9_seal 21 = .ok (.getfield 25, 3) := by decide +kernel
theorem dX9_seal_24 : decode cX9_seal 24 = .ok (.iload_n 1, 1) := by decide +kernel
theorem dX9_seal_25 : decode cX9_seal 25 = .ok (.aaload, 1) := by decide +kernel
theorem dX9_seal_26 : decode cX9_seal 26 = .ok (.iload 6, 2) := by decide +kernel
theorem dX9_seal_28 : decode cX9_seal 28 = .ok (.iaload, 1) := by decide +kernel
theorem dX9_seal_29 : decode cX9_seal 29 = .ok (.iconst 1, 1) := by decide +kernel
theorem dX9_seal_30 : decode cX9_seal 30 = .ok (.iadd, 1) := by decide +kernel
theorem dX9_seal_31 : decode cX9_seal 31 = .ok (.i2l, 1) := by decide +kernel
theorem dX9_seal_32 : decode cX9_seal 32 = .ok (.ladd, 1) := by decide +kernel
theorem dX9_seal_33 : decode cX9_seal 33 = .ok (.lstore_n 2, 1) := by decide +kernel
theorem dX9_seal_34 : decode cX9_seal 34 = .ok (.lload 4, 2) := by decide +kernel
theorem dX9_seal_36 : decode cX9_seal 36 = .ok (.lload_n 2, 1) := by decide +kernel
theorem dX9_seal_37 : decode cX9_seal 37 = .ok (.ladd, 1) := by decide +kernel
theorem dX9_seal_38 : decode cX9_seal 38 = .ok (.lstore 4, 2) := by decide +kernel
theorem dX9_seal_40 : decode cX9_seal 40 = .ok (.iinc 6 1, 3) := by decide +kernel
theorem dX9_seal_43 : decode cX9_seal 43 = .ok (.goto (-35), 3) := by decide +kernel
theorem dX9_seal_46 : decode cX9_seal 46 = .ok (.ldc2_w 93, 3) := by decide +kernel
theorem dX9_seal_49 : decode cX9_seal 49 = .ok (.lload 4, 2) := by decide +kernel
theorem dX9_seal_51 : decode cX9_seal 51 = .ok (.ldc2_w 95, 3) := by decide +kernel
theorem dX9_seal_54 : decode cX9_seal 54 = .ok (.lrem, 1) := by decide +kernel
theorem dX9_seal_55 : decode cX9_seal 55 = .ok (.lmul, 1) := by decide +kernel
theorem dX9_seal_56 : decode cX9_seal 56 = .ok (.lload_n 2, 1) := by decide +kernel
theorem dX9_seal_57 : decode cX9_seal 57 = .ok (.ldc2_w 95, 3) := by decide +kernel
theorem dX9_seal_60 : decode cX9_seal 60 = .ok (.lrem, 1) := by decide +kernel
theorem dX9_seal_61 : decode cX9_seal 61 = .ok (.ladd, 1) := by decide +kernel
theorem dX9_seal_62 : decode cX9_seal 62 = .ok (.l2i, 1) := by decide +kernel
theorem dX9_seal_63 : decode cX9_seal 63 = .ok (.ireturn, 1) := by decide +kernel
theorem dX9_load_0 : decode cX9_load 0 = .ok (.iconst 0, 1) := by decide +kernel
theorem dX9_load_1 : decode cX9_load 1 = .ok (.istore_n 2, 1) := by decide +kernel
theorem dX9_load_2 : decode cX9_load 2 = .ok (.iconst 0, 1) := by decide +kernel
theorem dX9_load_3 : decode cX9_load 3 = .ok (.istore_n 3, 1) := by decide +kernel
theorem dX9_load_4 : decode cX9_load 4 = .ok (.iload_n 3, 1) := by decide +kernel
theorem dX9_load_5 : decode cX9_load 5 = .ok (.aload_n 0, 1) := by decide +kernel
theorem dX9_load_6 : decode cX9_load 6 = .ok (.getfield 73, 3) := by decide +kernel
theorem dX9_load_9 : decode cX9_load 9 = .ok (.if_icmp .ge 54, 3) := by decide +kernel
theorem dX9_load_12 : decode cX9_load 12 = .ok (.iload_n 2, 1) := by decide +kernel
theorem dX9_load_13 : decode cX9_load 13 = .ok (.aload_n 0, 1) := by decide +kernel
theorem dX9_load_14 : decode cX9_load 14 = .ok (.getfield 38, 3) := by decide +kernel
theorem dX9_load_17 : decode cX9_load 17 = .ok (.iload_n 3, 1) := by decide +kernel
theorem dX9_load_18 : decode cX9_load 18 = .ok (.iaload, 1) := by decide +kernel
theorem dX9_load_19 : decode cX9_load 19 = .ok (.iload_n 1, 1) := by decide +kernel
theorem dX9_load_20 : decode cX9_load 20 = .ok (.if_icmp .ne 34, 3) := by decide +kernel
theorem dX9_load_23 : decode cX9_load 23 = .ok (.aload_n 0, 1) := by decide +kernel
theorem dX9_load_24 : decode cX9_load 24 = .ok (.getfield 47, 3) := by decide +kernel
theorem dX9_load_27 : decode cX9_load 27 = .ok (.iload_n 3, 1) := by decide +kernel
theorem dX9_load_28 : decode cX9_load 28 = .ok (.caload, 1) := by decide +kernel
theorem dX9_load_29 : decode cX9_load 29 = .ok (.bipush 119, 2) := by decide +kernel
theorem dX9_load_31 : decode cX9_load 31 = .ok (.if_icmp .eq 14, 3) := by decide +kernel
theorem dX9_load_34 : decode cX9_load 34 = .ok (.aload_n 0, 1) := by decide +kernel
theorem dX9_load_35 : decode cX9_load 35 = .ok (.getfield 47, 3) := by decide +kernel
theorem dX9_load_38 : decode cX9_load 38 = .ok (.iload_n 3, 1) := by decide +kernel
theorem dX9_load_39 : decode cX9_load 39 = .ok (.caload, 1) := by decide +kernel
theorem dX9_load_40 : decode cX9_load 40 = .ok (.bipush 108, 2) := by decide +kernel
theorem dX9_load_42 : decode cX9_load 42 = .ok (.if_icmp .ne 12, 3) := by decide +kernel
theorem dX9_load_45 : decode cX9_load 45 = .ok (.aload_n 0, 1) := by decide +kernel
theorem dX9_load_46 : decode cX9_load 46 = .ok (.getfield 41, 3) := by decide +kernel
theorem dX9_load_49 : decode cX9_load 49 = .ok (.iload_n 3, 1) := by decide +kernel
theorem dX9_load_50 : decode cX9_load 50 = .ok (.iaload, 1) := by decide +kernel
theorem dX9_load_51 : decode cX9_load 51 = .ok (.goto 4, 3) := by decide +kernel
theorem dX9_load_54 : decode cX9_load 54 = .ok (.iconst 0, 1) := by decide +kernel
theorem dX9_load_55 : decode cX9_load 55 = .ok (.iadd, 1) := by decide +kernel
theorem dX9_load_56 : decode cX9_load 56 = .ok (.istore_n 2, 1) := by decide +kernel
theorem dX9_load_57 : decode cX9_load 57 = .ok (.iinc 3 1, 3) := by decide +kernel
theorem dX9_load_60 : decode cX9_load 60 = .ok (.goto (-56), 3) := by decide +kernel
theorem dX9_load_63 : decode cX9_load 63 = .ok (.iload_n 2, 1) := by decide +kernel
theorem dX9_load_64 : decode cX9_load 64 = .ok (.ireturn, 1) := by decide +kernel
theorem dX9_jams_0 : decode cX9_jams 0 = .ok (.iconst 0, 1) := by decide +kernel
theorem dX9_jams_1 : decode cX9_jams 1 = .ok (.istore_n 1, 1) := by decide +kernel
theorem dX9_jams_2 : decode cX9_jams 2 = .ok (.aload_n 0, 1) := by decide +kernel
theorem dX9_jams_3 : decode cX9_jams 3 = .ok (.getfield 16, 3) := by decide +kernel
theorem dX9_jams_6 : decode cX9_jams 6 = .ok (.astore_n 2, 1) := by decide +kernel
theorem dX9_jams_7 : decode cX9_jams 7 = .ok (.aload_n 2, 1) := by decide +kernel
theorem dX9_jams_8 : decode cX9_jams 8 = .ok (.arraylength, 1) := by decide +kernel
theorem dX9_jams_9 : decode cX9_jams 9 = .ok (.istore_n 3, 1) := by decide +kernel
theorem dX9_jams_10 : decode cX9_jams 10 = .ok (.iconst 0, 1) := by decide +kernel
theorem dX9_jams_11 : decode cX9_jams 11 = .ok (.istore 4, 2) := by decide +kernel
theorem dX9_jams_13 : decode cX9_jams 13 = .ok (.iload 4, 2) := by decide +kernel
theorem dX9_jams_15 : decode cX9_jams 15 = .ok (.iload_n 3, 1) := by decide +kernel
theorem dX9_jams_16 : decode cX9_jams 16 = .ok (.if_icmp .ge 28, 3) := by decide +kernel
theorem dX9_jams_19 : decode cX9_jams 19 = .ok (.aload_n 2, 1) := by decide +kernel
theorem dX9_jams_20 : decode cX9_jams 20 = .ok (.iload 4, 2) := by decide +kernel
theorem dX9_jams_22 : decode cX9_jams 22 = .ok (.baload, 1) := by decide +kernel
theorem dX9_jams_23 : decode cX9_jams 23 = .ok (.istore 5, 2) := by decide +kernel
theorem dX9_jams_25 : decode cX9_jams 25 = .ok (.iload_n 1, 1) := by decide +kernel
theorem dX9_jams_26 : decode cX9_jams 26 = .ok (.iload 5, 2) := by decide +kernel
theorem dX9_jams_28 : decode cX9_jams 28 = .ok (.ifCond .eq 7, 3) := by decide +kernel
theorem dX9_jams_31 : decode cX9_jams 31 = .ok (.iconst 1, 1) := by decide +kernel
theorem dX9_jams_32 : decode cX9_jams 32 = .ok (.goto 4, 3) := by decide +kernel
theorem dX9_jams_35 : decode cX9_jams 35 = .ok (.iconst 0, 1) := by decide +kernel
theorem dX9_jams_36 : decode cX9_jams 36 = .ok (.iadd, 1) := by decide +kernel
theorem dX9_jams_37 : decode cX9_jams 37 = .ok (.istore_n 1, 1) := by decide +kernel
theorem dX9_jams_38 : decode cX9_jams 38 = .ok (.iinc 4 1, 3) := by decide +kernel
theorem dX9_jams_41 : decode cX9_jams 41 = .ok (.goto (-28), 3) := by decide +kernel
theorem dX9_jams_44 : decode cX9_jams 44 = .ok (.iload_n 1, 1) := by decide +kernel
theorem dX9_jams_45 : decode cX9_jams 45 = .ok (.ireturn, 1) := by decide +kernel
theorem dJ9_max_7cf53_0 : decode cJ9_max_7cf53 0 = .ok (.iload_n 0, 1) := by decide +kernel
theorem dJ9_max_7cf53_1 : decode cJ9_max_7cf53 1 = .ok (.iload_n 1, 1) := by decide +kernel
theorem dJ9_max_7cf53_2 : decode cJ9_max_7cf53 2 = .ok (.if_icmp .lt 7, 3) := by decide +kernel
theorem dJ9_max_7cf53_5 : decode cJ9_max_7cf53 5 = .ok (.iload_n 0, 1) := by decide +kernel
theorem dJ9_max_7cf53_6 : decode cJ9_max_7cf53 6 = .ok (.goto 4, 3) := by decide +kernel
theorem dJ9_max_7cf53_9 : decode cJ9_max_7cf53 9 = .ok (.iload_n 1, 1) := by decide +kernel
theorem dJ9_max_7cf53_10 : decode cJ9_max_7cf53 10 = .ok (.ireturn, 1) := by decide +kernel
theorem dJ9_min_7cf53_0 : decode cJ9_min_7cf53 0 = .ok (.iload_n 0, 1) := by decide +kernel
theorem dJ9_min_7cf53_1 : decode cJ9_min_7cf53 1 = .ok (.iload_n 1, 1) := by decide +kernel
theorem dJ9_min_7cf53_2 : decode cJ9_min_7cf53 2 = .ok (.if_icmp .gt 7, 3) := by decide +kernel
theorem dJ9_min_7cf53_5 : decode cJ9_min_7cf53 5 = .ok (.iload_n 0, 1) := by decide +kernel
theorem dJ9_min_7cf53_6 : decode cJ9_min_7cf53 6 = .ok (.goto 4, 3) := by decide +kernel
theorem dJ9_min_7cf53_9 : decode cJ9_min_7cf53 9 = .ok (.iload_n 1, 1) := by decide +kernel
theorem dJ9_min_7cf53_10 : decode cJ9_min_7cf53 10 = .ok (.ireturn, 1) := by decide +kernel
theorem dL_cell_0 : decode cL_cell 0 = .ok (.iload_n 1, 1) := by decide +kernel
theorem dL_cell_1 : decode cL_cell 1 = .ok (.aload_n 0, 1) := by decide +kernel
theorem dL_cell_2 : decode cL_cell 2 = .ok (.arraylength, 1) := by decide +kernel
theorem dL_cell_3 : decode cL_cell 3 = .ok (.if_icmp .ge 9, 3) := by decide +kernel
theorem dL_cell_6 : decode cL_cell 6 = .ok (.aload_n 0, 1) := by decide +kernel
theorem dL_cell_7 : decode cL_cell 7 = .ok (.iload_n 1, 1) := by decide +kernel
theorem dL_cell_8 : decode cL_cell 8 = .ok (.iaload, 1) := by decide +kernel
theorem dL_cell_9 : decode cL_cell 9 = .ok (.goto 11, 3) := by decide +kernel
theorem dL_cell_12 : decode cL_cell 12 = .ok (.ldc 7, 2) := by decide +kernel
theorem dL_cell_14 : decode cL_cell 14 = .ok (.iload_n 1, 1) := by decide +kernel
theorem dL_cell_15 : decode cL_cell 15 = .ok (.imul, 1) := by decide +kernel
theorem dL_cell_16 : decode cL_cell 16 = .ok (.sipush 619, 3) := by decide +kernel
theorem dL_cell_19 : decode cL_cell 19 = .ok (.iadd, 1) := by decide +kernel
theorem dL_cell_20 : decode cL_cell 20 = .ok (.ireturn, 1) := by decide +kernel
theorem dL_low_0 : decode cL_low 0 = .ok (.iload_n 0, 1) := by decide +kernel
theorem dL_low_1 : decode cL_low 1 = .ok (.ldc 8, 2) := by decide +kernel
theorem dL_low_3 : decode cL_low 3 = .ok (.iand, 1) := by decide +kernel
theorem dL_low_4 : decode cL_low 4 = .ok (.iload_n 1, 1) := by decide +kernel
theorem dL_low_5 : decode cL_low 5 = .ok (.irem, 1) := by decide +kernel
theorem dL_low_6 : decode cL_low 6 = .ok (.ireturn, 1) := by decide +kernel
theorem dL_chuteFor_0 : decode cL_chuteFor 0 = .ok (.aload_n 0, 1) := by decide +kernel
theorem dL_chuteFor_1 : decode cL_chuteFor 1 = .ok (.iload_n 1, 1) := by decide +kernel
theorem dL_chuteFor_2 : decode cL_chuteFor 2 = .ok (.invokevirtual 9, 3) := by decide +kernel
theorem dL_chuteFor_5 : decode cL_chuteFor 5 = .ok (.ireturn, 1) := by decide +kernel
theorem dL_chuteFor_6 : decode cL_chuteFor 6 = .ok (.astore_n 2, 1) := by decide +kernel
theorem dL_chuteFor_7 : decode cL_chuteFor 7 = .ok (.iconst (-1), 1) := by decide +kernel
theorem dL_chuteFor_8 : decode cL_chuteFor 8 = .ok (.ireturn, 1) := by decide +kernel
theorem dL_trayAt_0 : decode cL_trayAt 0 = .ok (.aload_n 0, 1) := by decide +kernel
theorem dL_trayAt_1 : decode cL_trayAt 1 = .ok (.iload_n 1, 1) := by decide +kernel
theorem dL_trayAt_2 : decode cL_trayAt 2 = .ok (.invokevirtual 17, 3) := by decide +kernel
theorem dL_trayAt_5 : decode cL_trayAt 5 = .ok (.ireturn, 1) := by decide +kernel
theorem dL_trayAt_6 : decode cL_trayAt 6 = .ok (.astore_n 2, 1) := by decide +kernel
theorem dL_trayAt_7 : decode cL_trayAt 7 = .ok (.iconst (-1), 1) := by decide +kernel
theorem dL_trayAt_8 : decode cL_trayAt 8 = .ok (.ireturn, 1) := by decide +kernel
theorem dL_agrees_0 : decode cL_agrees 0 = .ok (.iconst 0, 1) := by decide +kernel
theorem dL_agrees_1 : decode cL_agrees 1 = .ok (.istore_n 2, 1) := by decide +kernel
theorem dL_agrees_2 : decode cL_agrees 2 = .ok (.iconst 0, 1) := by decide +kernel
theorem dL_agrees_3 : decode cL_agrees 3 = .ok (.istore_n 3, 1) := by decide +kernel
theorem dL_agrees_4 : decode cL_agrees 4 = .ok (.iconst 0, 1) := by decide +kernel
theorem dL_agrees_5 : decode cL_agrees 5 = .ok (.istore 4, 2) := by decide +kernel
theorem dL_agrees_7 : decode cL_agrees 7 = .ok (.iload 4, 2) := by decide +kernel
theorem dL_agrees_9 : decode cL_agrees 9 = .ok (.aload_n 1, 1) := by decide +kernel
theorem dL_agrees_10 : decode cL_agrees 10 = .ok (.getfield 20, 3) := by decide +kernel
theorem dL_agrees_13 : decode cL_agrees 13 = .ok (.if_icmp .ge 123, 3) := by decide +kernel
theorem dL_agrees_16 : decode cL_agrees 16 = .ok (.iload_n 2, 1) := by decide +kernel
theorem dL_agrees_17 : decode cL_agrees 17 = .ok (.aload_n 1, 1) := by decide +kernel
theorem dL_agrees_18 : decode cL_agrees 18 = .ok (.getfield 26, 3) := by decide +kernel
theorem dL_agrees_21 : decode cL_agrees 21 = .ok (.iload 4, 2) := by decide +kernel
theorem dL_agrees_23 : decode cL_agrees 23 = .ok (.caload, 1) := by decide +kernel
theorem dL_agrees_24 : decode cL_agrees 24 = .ok (.bipush 119, 2) := by decide +kernel
theorem dL_agrees_26 : decode cL_agrees 26 = .ok (.if_icmp .ne 7, 3) := by decide +kernel
theorem dL_agrees_29 : decode cL_agrees 29 = .ok (.iconst 1, 1) := by decide +kernel
theorem dL_agrees_30 : decode cL_agrees 30 = .ok (.goto 4, 3) := by decide +kernel
theorem dL_agrees_33 : decode cL_agrees 33 = .ok (.iconst 0, 1) := by decide +kernel
theorem dL_agrees_34 : decode cL_agrees 34 = .ok (.iadd, 1) := by decide +kernel
theorem dL_agrees_35 : decode cL_agrees 35 = .ok (.istore_n 2, 1) := by decide +kernel
theorem dL_agrees_36 : decode cL_agrees 36 = .ok (.iload_n 3, 1) := by decide +kernel
theorem dL_agrees_37 : decode cL_agrees 37 = .ok (.aload_n 1, 1) := by decide +kernel
theorem dL_agrees_38 : decode cL_agrees 38 = .ok (.getfield 26, 3) := by decide +kernel
theorem dL_agrees_41 : decode cL_agrees 41 = .ok (.iload 4, 2) := by decide +kernel
theorem dL_agrees_43 : decode cL_agrees 43 = .ok (.caload, 1) := by decide +kernel
theorem dL_agrees_44 : decode cL_agrees 44 = .ok (.bipush 108, 2) := by decide +kernel
theorem dL_agrees_46 : decode cL_agrees 46 = .ok (.if_icmp .ne 7, 3) := by decide +kernel
theorem dL_agrees_49 : decode cL_agrees 49 = .ok (.iconst 1, 1) := by decide +kernel
theorem dL_agrees_50 : decode cL_agrees 50 = .ok (.goto 4, 3) := by decide +kernel
theorem dL_agrees_53 : decode cL_agrees 53 = .ok (.iconst 0, 1) := by decide +kernel
theorem dL_agrees_54 : decode cL_agrees 54 = .ok (.iadd, 1) := by decide +kernel
theorem dL_agrees_55 : decode cL_agrees 55 = .ok (.istore_n 3, 1) := by decide +kernel
theorem dL_agrees_56 : decode cL_agrees 56 = .ok (.aload_n 0, 1) := by decide +kernel
theorem dL_agrees_57 : decode cL_agrees 57 = .ok (.iload 4, 2) := by decide +kernel
theorem dL_agrees_59 : decode cL_agrees 59 = .ok (.invokevirtual 30, 3) := by decide +kernel
theorem dL_agrees_62 : decode cL_agrees 62 = .ok (.aload_n 1, 1) := by decide +kernel
theorem dL_agrees_63 : decode cL_agrees 63 = .ok (.getfield 26, 3) := by decide +kernel
theorem dL_agrees_66 : decode cL_agrees 66 = .ok (.iload 4, 2) := by decide +kernel
theorem dL_agrees_68 : decode cL_agrees 68 = .ok (.caload, 1) := by decide +kernel
theorem dL_agrees_69 : decode cL_agrees 69 = .ok (.if_icmp .ne 59, 3) := by decide +kernel
theorem dL_agrees_72 : decode cL_agrees 72 = .ok (.aload_n 1, 1) := by decide +kernel
theorem dL_agrees_73 : decode cL_agrees 73 = .ok (.getfield 26, 3) := by decide +kernel
theorem dL_agrees_76 : decode cL_agrees 76 = .ok (.iload 4, 2) := by decide +kernel
theorem dL_agrees_78 : decode cL_agrees 78 = .ok (.caload, 1) := by decide +kernel
theorem dL_agrees_79 : decode cL_agrees 79 = .ok (.bipush 119, 2) := by decide +kernel
theorem dL_agrees_81 : decode cL_agrees 81 = .ok (.if_icmp .eq 19, 3) := by decide +kernel
theorem dL_agrees_84 : decode cL_agrees 84 = .ok (.aload_n 0, 1) := by decide +kernel
theorem dL_agrees_85 : decode cL_agrees 85 = .ok (.iload 4, 2) := by decide +kernel
theorem dL_agrees_87 : decode cL_agrees 87 = .ok (.invokevirtual 34, 3) := by decide +kernel
theorem dL_agrees_90 : decode cL_agrees 90 = .ok (.aload_n 1, 1) := by decide +kernel
theorem dL_agrees_91 : decode cL_agrees 91 = .ok (.getfield 37, 3) := by decide +kernel
theorem dL_agrees_94 : decode cL_agrees 94 = .ok (.iload 4, 2) := by decide +kernel
theorem dL_agrees_96 : decode cL_agrees 96 = .ok (.iaload, 1) := by decide +kernel
theorem dL_agrees_97 : decode cL_agrees 97 = .ok (.if_icmp .ne 31, 3) := by decide +kernel
theorem dL_agrees_100 : decode cL_agrees 100 = .ok (.aload_n 1, 1) := by decide +kernel
theorem dL_agrees_101 : decode cL_agrees 101 = .ok (.getfield 26, 3) := by decide +kernel
theorem dL_agrees_104 : decode cL_agrees 104 = .ok (.iload 4, 2) := by decide +kernel
theorem dL_agrees_106 : decode cL_agrees 106 = .ok (.caload, 1) := by decide +kernel
theorem dL_agrees_107 : decode cL_agrees 107 = .ok (.bipush 116, 2) := by decide +kernel
theorem dL_agrees_109 : decode cL_agrees 109 = .ok (.if_icmp .ne 21, 3) := by decide +kernel
theorem dL_agrees_112 : decode cL_agrees 112 = .ok (.aload_n 0, 1) := by decide +kernel
theorem dL_agrees_113 : decode cL_agrees 113 = .ok (.iload 4, 2) := by decide +kernel
theorem dL_agrees_115 : decode cL_agrees 115 = .ok (.invokevirtual 41, 3) := by decide +kernel
theorem dL_agrees_118 : decode cL_agrees 118 = .ok (.aload_n 1, 1) := by decide +kernel
theorem dL_agrees_119 : decode cL_agrees 119 = .ok (.getfield 44, 3) := by decide +kernel
theorem dL_agrees_122 : decode cL_agrees 122 = .ok (.iload 4, 2) := by decide +kernel
theorem dL_agrees_124 : decode cL_agrees 124 = .ok (.iaload, 1) := by decide +kernel
theorem dL_agrees_125 : decode cL_agrees 125 = .ok (.if_icmp .eq 5, 3) := by decide +kernel
theorem dL_agrees_128 : decode cL_agrees 128 = .ok (.iconst 0, 1) := by decide +kernel
theorem dL_agrees_129 : decode cL_agrees 129 = .ok (.ireturn, 1) := by decide +kernel
theorem dL_agrees_130 : decode cL_agrees 130 = .ok (.iinc 4 1, 3) := by decide +kernel
theorem dL_agrees_133 : decode cL_agrees 133 = .ok (.goto (-126), 3) := by decide +kernel
theorem dL_agrees_136 : decode cL_agrees 136 = .ok (.aload_n 0, 1) := by decide +kernel
theorem dL_agrees_137 : decode cL_agrees 137 = .ok (.invokevirtual 47, 3) := by decide +kernel
theorem dL_agrees_140 : decode cL_agrees 140 = .ok (.iload_n 2, 1) := by decide +kernel
theorem dL_agrees_141 : decode cL_agrees 141 = .ok (.if_icmp .ne 62, 3) := by decide +kernel
theorem dL_agrees_144 : decode cL_agrees 144 = .ok (.aload_n 0, 1) := by decide +kernel
theorem dL_agrees_145 : decode cL_agrees 145 = .ok (.invokevirtual 51, 3) := by decide +kernel
theorem dL_agrees_148 : decode cL_agrees 148 = .ok (.iload_n 3, 1) := by decide +kernel
theorem dL_agrees_149 : decode cL_agrees 149 = .ok (.if_icmp .ne 54, 3) := by decide +kernel
theorem dL_agrees_152 : decode cL_agrees 152 = .ok (.aload_n 0, 1) := by decide +kernel
theorem dL_agrees_153 : decode cL_agrees 153 = .ok (.invokevirtual 54, 3) := by decide +kernel
theorem dL_agrees_156 : decode cL_agrees 156 = .ok (.aload_n 1, 1) := by decide +kernel
theorem dL_agrees_157 : decode cL_agrees 157 = .ok (.getfield 57, 3) := by decide +kernel
theorem dL_agrees_160 : decode cL_agrees 160 = .ok (.if_icmp .ne 43, 3) := by decide +kernel
theorem dL_agrees_163 : decode cL_agrees 163 = .ok (.aload_n 0, 1) := by decide +kernel
theorem dL_agrees_164 : decode cL_agrees 164 = .ok (.invokevirtual 60, 3) := by decide +kernel
theorem dL_agrees_167 : decode cL_agrees 167 = .ok (.aload_n 1, 1) := by decide +kernel
theorem dL_agrees_168 : decode cL_agrees 168 = .ok (.getfield 64, 3) := by decide +kernel
theorem dL_agrees_171 : decode cL_agrees 171 = .ok (.i2l, 1) := by decide +kernel
theorem dL_agrees_172 : decode cL_agrees 172 = .ok (.lcmp, 1) := by decide +kernel
theorem dL_agrees_173 : decode cL_agrees 173 = .ok (.ifCond .ne 30, 3) := by decide +kernel
theorem dL_agrees_176 : decode cL_agrees 176 = .ok (.aload_n 0, 1) := by decide +kernel
theorem dL_agrees_177 : decode cL_agrees 177 = .ok (.invokevirtual 67, 3) := by decide +kernel
theorem dL_agrees_180 : decode cL_agrees 180 = .ok (.aload_n 1, 1) := by decide +kernel
theorem dL_agrees_181 : decode cL_agrees 181 = .ok (.getfield 70, 3) := by decide +kernel
theorem dL_agrees_184 : decode cL_agrees 184 = .ok (.if_icmp .ne 19, 3) := by decide +kernel
theorem dL_agrees_187 : decode cL_agrees 187 = .ok (.aload_n 0, 1) := by decide +kernel
theorem dL_agrees_188 : decode cL_agrees 188 = .ok (.invokevirtual 72, 3) := by decide +kernel
theorem dL_agrees_191 : decode cL_agrees 191 = .ok (.aload_n 1, 1) := by decide +kernel
theorem dL_agrees_192 : decode cL_agrees 192 = .ok (.getfield 75, 3) := by decide +kernel
theorem dL_agrees_195 : decode cL_agrees 195 = .ok (.lcmp, 1) := by decide +kernel
theorem dL_agrees_196 : decode cL_agrees 196 = .ok (.ifCond .ne 7, 3) := by decide +kernel
theorem dL_agrees_199 : decode cL_agrees 199 = .ok (.iconst 1, 1) := by decide +kernel
theorem dL_agrees_200 : decode cL_agrees 200 = .ok (.goto 4, 3) := by decide +kernel
theorem dL_agrees_203 : decode cL_agrees 203 = .ok (.iconst 0, 1) := by decide +kernel
theorem dL_agrees_204 : decode cL_agrees 204 = .ok (.istore 4, 2) := by decide +kernel
theorem dL_agrees_206 : decode cL_agrees 206 = .ok (.iconst 0, 1) := by decide +kernel
theorem dL_agrees_207 : decode cL_agrees 207 = .ok (.istore 5, 2) := by decide +kernel
theorem dL_agrees_209 : decode cL_agrees 209 = .ok (.iload 5, 2) := by decide +kernel
theorem dL_agrees_211 : decode cL_agrees 211 = .ok (.aload_n 1, 1) := by decide +kernel
theorem dL_agrees_212 : decode cL_agrees 212 = .ok (.getfield 78, 3) := by decide +kernel
theorem dL_agrees_215 : decode cL_agrees 215 = .ok (.if_icmp .ge 61, 3) := by decide +kernel
theorem dL_agrees_218 : decode cL_agrees 218 = .ok (.iload 4, 2) := by decide +kernel
theorem dL_agrees_220 : decode cL_agrees 220 = .ok (.ifCond .eq 56, 3) := by decide +kernel
theorem dL_agrees_223 : decode cL_agrees 223 = .ok (.aload_n 1, 1) := by decide +kernel
theorem dL_agrees_224 : decode cL_agrees 224 = .ok (.getfield 81, 3) := by decide +kernel
theorem dL_agrees_227 : decode cL_agrees 227 = .ok (.aload_n 1, 1) := by decide +kernel
theorem dL_agrees_228 : decode cL_agrees 228 = .ok (.iload 5, 2) := by decide +kernel
theorem dL_agrees_230 : decode cL_agrees 230 = .ok (.invokevirtual 84, 3) := by decide +kernel
theorem dL_agrees_233 : decode cL_agrees 233 = .ok (.iaload, 1) := by decide +kernel
theorem dL_agrees_234 : decode cL_agrees 234 = .ok (.istore 6, 2) := by decide +kernel
theorem dL_agrees_236 : decode cL_agrees 236 = .ok (.aload_n 0, 1) := by decide +kernel
theorem dL_agrees_237 : decode cL_agrees 237 = .ok (.iload 5, 2) := by decide +kernel
theorem dL_agrees_239 : decode cL_agrees 239 = .ok (.invokestatic 85, 3) := by decide +kernel
theorem dL_agrees_242 : decode cL_agrees 242 = .ok (.iload 6, 2) := by decide +kernel
theorem dL_agrees_244 : decode cL_agrees 244 = .ok (.if_icmp .ne 23, 3) := by decide +kernel
theorem dL_agrees_247 : decode cL_agrees 247 = .ok (.iload 6, 2) := by decide +kernel
theorem dL_agrees_249 : decode cL_agrees 249 = .ok (.ifCond .lt 14, 3) := by decide +kernel
theorem dL_agrees_252 : decode cL_agrees 252 = .ok (.aload_n 0, 1) := by decide +kernel
theorem dL_agrees_253 : decode cL_agrees 253 = .ok (.iload 6, 2) := by decide +kernel
theorem dL_agrees_255 : decode cL_agrees 255 = .ok (.invokevirtual 90, 3) := by decide +kernel
theorem dL_agrees_258 : decode cL_agrees 258 = .ok (.iload 5, 2) := by decide +kernel
theorem dL_agrees_260 : decode cL_agrees 260 = .ok (.if_icmp .ne 7, 3) := by decide +kernel
theorem dL_agrees_263 : decode cL_agrees 263 = .ok (.iconst 1, 1) := by decide +kernel
theorem dL_agrees_264 : decode cL_agrees 264 = .ok (.goto 4, 3) := by decide +kernel
theorem dL_agrees_267 : decode cL_agrees 267 = .ok (.iconst 0, 1) := by decide +kernel
theorem dL_agrees_268 : decode cL_agrees 268 = .ok (.istore 4, 2) := by decide +kernel
theorem dL_agrees_270 : decode cL_agrees 270 = .ok (.iinc 5 1, 3) := by decide +kernel
theorem dL_agrees_273 : decode cL_agrees 273 = .ok (.goto (-64), 3) := by decide +kernel
theorem dL_agrees_276 : decode cL_agrees 276 = .ok (.iconst 0, 1) := by decide +kernel
theorem dL_agrees_277 : decode cL_agrees 277 = .ok (.istore 5, 2) := by decide +kernel
theorem dL_agrees_279 : decode cL_agrees 279 = .ok (.iload 5, 2) := by decide +kernel
theorem dL_agrees_281 : decode cL_agrees 281 = .ok (.aload_n 1, 1) := by decide +kernel
theorem dL_agrees_282 : decode cL_agrees 282 = .ok (.getfield 93, 3) := by decide +kernel
theorem dL_agrees_285 : decode cL_agrees 285 = .ok (.if_icmp .ge 67, 3) := by decide +kernel
theorem dL_agrees_288 : decode cL_agrees 288 = .ok (.iload 4, 2) := by decide +kernel
theorem dL_agrees_290 : decode cL_agrees 290 = .ok (.ifCond .eq 62, 3) := by decide +kernel
theorem dL_agrees_293 : decode cL_agrees 293 = .ok (.aload_n 0, 1) := by decide +kernel
theorem dL_agrees_294 : decode cL_agrees 294 = .ok (.iload 5, 2) := by decide +kernel
theorem dL_agrees_296 : decode cL_agrees 296 = .ok (.invokevirtual 96, 3) := by decide +kernel
theorem dL_agrees_299 : decode cL_agrees 299 = .ok (.aload_n 1, 1) := by decide +kernel
theorem dL_agrees_300 : decode cL_agrees 300 = .ok (.getfield 99, 3) := by decide +kernel
theorem dL_agrees_303 : decode cL_agrees 303 = .ok (.iload 5, 2) := by decide +kernel
theorem dL_agrees_305 : decode cL_agrees 305 = .ok (.iaload, 1) := by decide +kernel
theorem dL_agrees_306 : decode cL_agrees 306 = .ok (.if_icmp .ne 37, 3) := by decide +kernel
theorem dL_agrees_309 : decode cL_agrees 309 = .ok (.aload_n 0, 1) := by decide +kernel
theorem dL_agrees_310 : decode cL_agrees 310 = .ok (.iload 5, 2) := by decide +kernel
theorem dL_agrees_312 : decode cL_agrees 312 = .ok (.invokevirtual 102, 3) := by decide +kernel
theorem dL_agrees_315 : decode cL_agrees 315 = .ok (.aload_n 1, 1) := by decide +kernel
theorem dL_agrees_316 : decode cL_agrees 316 = .ok (.iload 5, 2) := by decide +kernel
theorem dL_agrees_318 : decode cL_agrees 318 = .ok (.invokevirtual 105, 3) := by decide +kernel
theorem dL_agrees_321 : decode cL_agrees 321 = .ok (.if_icmp .ne 22, 3) := by decide +kernel
theorem dL_agrees_324 : decode cL_agrees 324 = .ok (.aload_n 0, 1) := by decide +kernel
theorem dL_agrees_325 : decode cL_agrees 325 = .ok (.iload 5, 2) := by decide +kernel
theorem dL_agrees_327 : decode cL_agrees 327 = .ok (.invokevirtual 106, 3) := by decide +kernel
theorem dL_agrees_330 : decode cL_agrees 330 = .ok (.aload_n 1, 1) := by decide +kernel
theorem dL_agrees_331 : decode cL_agrees 331 = .ok (.iload 5, 2) := by decide +kernel
theorem dL_agrees_333 : decode cL_agrees 333 = .ok (.invokevirtual 105, 3) := by decide +kernel
theorem dL_agrees_336 : decode cL_agrees 336 = .ok (.if_icmp .ne 7, 3) := by decide +kernel
theorem dL_agrees_339 : decode cL_agrees 339 = .ok (.iconst 1, 1) := by decide +kernel
theorem dL_agrees_340 : decode cL_agrees 340 = .ok (.goto 4, 3) := by decide +kernel
theorem dL_agrees_343 : decode cL_agrees 343 = .ok (.iconst 0, 1) := by decide +kernel
theorem dL_agrees_344 : decode cL_agrees 344 = .ok (.istore 4, 2) := by decide +kernel
theorem dL_agrees_346 : decode cL_agrees 346 = .ok (.iinc 5 1, 3) := by decide +kernel
theorem dL_agrees_349 : decode cL_agrees 349 = .ok (.goto (-70), 3) := by decide +kernel
theorem dL_agrees_352 : decode cL_agrees 352 = .ok (.iconst 0, 1) := by decide +kernel
theorem dL_agrees_353 : decode cL_agrees 353 = .ok (.istore 5, 2) := by decide +kernel
theorem dL_agrees_355 : decode cL_agrees 355 = .ok (.iload 5, 2) := by decide +kernel
theorem dL_agrees_357 : decode cL_agrees 357 = .ok (.bipush 8, 2) := by decide +kernel
theorem dL_agrees_359 : decode cL_agrees 359 = .ok (.if_icmp .ge 52, 3) := by decide +kernel
theorem dL_agrees_362 : decode cL_agrees 362 = .ok (.iload 4, 2) := by decide +kernel
theorem dL_agrees_364 : decode cL_agrees 364 = .ok (.ifCond .eq 47, 3) := by decide +kernel
theorem dL_agrees_367 : decode cL_agrees 367 = .ok (.aload_n 0, 1) := by decide +kernel
theorem dL_agrees_368 : decode cL_agrees 368 = .ok (.iload 5, 2) := by decide +kernel
theorem dL_agrees_370 : decode cL_agrees 370 = .ok (.invokevirtual 109, 3) := by decide +kernel
theorem dL_agrees_373 : decode cL_agrees 373 = .ok (.aload_n 1, 1) := by decide +kernel
theorem dL_agrees_374 : decode cL_agrees 374 = .ok (.iload 5, 2) := by decide +kernel
theorem dL_agrees_376 : decode cL_agrees 376 = .ok (.invokevirtual 112, 3) := by decide +kernel
theorem dL_agrees_379 : decode cL_agrees 379 = .ok (.if_icmp .ne 23, 3) := by decide +kernel
theorem dL_agrees_382 : decode cL_agrees 382 = .ok (.aload_n 0, 1) := by decide +kernel
theorem dL_agrees_383 : decode cL_agrees 383 = .ok (.iload 5, 2) := by decide +kernel
theorem dL_agrees_385 : decode cL_agrees 385 = .ok (.invokestatic 113, 3) := by decide +kernel
theorem dL_agrees_388 : decode cL_agrees 388 = .ok (.aload_n 1, 1) := by decide +kernel
theorem dL_agrees_389 : decode cL_agrees 389 = .ok (.getfield 115, 3) := by decide +kernel
theorem dL_agrees_392 : decode cL_agrees 392 = .ok (.iload 5, 2) := by decide +kernel
theorem dL_agrees_394 : decode cL_agrees 394 = .ok (.iaload, 1) := by decide +kernel
theorem dL_agrees_395 : decode cL_agrees 395 = .ok (.if_icmp .ne 7, 3) := by decide +kernel
theorem dL_agrees_398 : decode cL_agrees 398 = .ok (.iconst 1, 1) := by decide +kernel
theorem dL_agrees_399 : decode cL_agrees 399 = .ok (.goto 4, 3) := by decide +kernel
theorem dL_agrees_402 : decode cL_agrees 402 = .ok (.iconst 0, 1) := by decide +kernel
theorem dL_agrees_403 : decode cL_agrees 403 = .ok (.istore 4, 2) := by decide +kernel
theorem dL_agrees_405 : decode cL_agrees 405 = .ok (.iinc 5 1, 3) := by decide +kernel
theorem dL_agrees_408 : decode cL_agrees 408 = .ok (.goto (-53), 3) := by decide +kernel
theorem dL_agrees_411 : decode cL_agrees 411 = .ok (.iload 4, 2) := by decide +kernel
theorem dL_agrees_413 : decode cL_agrees 413 = .ok (.ifCond .eq 52, 3) := by decide +kernel
theorem dL_agrees_416 : decode cL_agrees 416 = .ok (.aload_n 1, 1) := by decide +kernel
theorem dL_agrees_417 : decode cL_agrees 417 = .ok (.getfield 117, 3) := by decide +kernel
theorem dL_agrees_420 : decode cL_agrees 420 = .ok (.ifCond .eq 41, 3) := by decide +kernel
theorem dL_agrees_423 : decode cL_agrees 423 = .ok (.aload_n 0, 1) := by decide +kernel
theorem dL_agrees_424 : decode cL_agrees 424 = .ok (.invokevirtual 120, 3) := by decide +kernel
theorem dL_agrees_427 : decode cL_agrees 427 = .ok (.aload_n 1, 1) := by decide +kernel
theorem dL_agrees_428 : decode cL_agrees 428 = .ok (.getfield 124, 3) := by decide +kernel
theorem dL_agrees_431 : decode cL_agrees 431 = .ok (.i2d, 1) := by decide +kernel
theorem dL_agrees_432 : decode cL_agrees 432 = .ok (.aload_n 1, 1) := by decide +kernel
theorem dL_agrees_433 : decode cL_agrees 433 = .ok (.getfield 117, 3) := by decide +kernel
theorem dL_agrees_436 : decode cL_agrees 436 = .ok (.i2d, 1) := by decide +kernel
theorem dL_agrees_437 : decode cL_agrees 437 = .ok (.ddiv, 1) := by decide +kernel
theorem dL_agrees_438 : decode cL_agrees 438 = .ok (.dcmp .l, 1) := by decide +kernel
theorem dL_agrees_439 : decode cL_agrees 439 = .ok (.ifCond .ne 26, 3) := by decide +kernel
theorem dL_agrees_442 : decode cL_agrees 442 = .ok (.aload_n 0, 1) := by decide +kernel
theorem dL_agrees_443 : decode cL_agrees 443 = .ok (.invokevirtual 127, 3) := by decide +kernel
theorem dL_agrees_446 : decode cL_agrees 446 = .ok (.aload_n 1, 1) := by decide +kernel
theorem dL_agrees_447 : decode cL_agrees 447 = .ok (.getfield 57, 3) := by decide +kernel
theorem dL_agrees_450 : decode cL_agrees 450 = .ok (.i2f, 1) := by decide +kernel
theorem dL_agrees_451 : decode cL_agrees 451 = .ok (.aload_n 1, 1) := by decide +kernel
theorem dL_agrees_452 : decode cL_agrees 452 = .ok (.getfield 117, 3) := by decide +kernel
theorem dL_agrees_455 : decode cL_agrees 455 = .ok (.i2f, 1) := by decide +kernel
theorem dL_agrees_456 : decode cL_agrees 456 = .ok (.fdiv, 1) := by decide +kernel
theorem dL_agrees_457 : decode cL_agrees 457 = .ok (.fcmp .l, 1) := by decide +kernel
theorem dL_agrees_458 : decode cL_agrees 458 = .ok (.ifCond .ne 7, 3) := by decide +kernel
theorem dL_agrees_461 : decode cL_agrees 461 = .ok (.iconst 1, 1) := by decide +kernel
theorem dL_agrees_462 : decode cL_agrees 462 = .ok (.goto 4, 3) := by decide +kernel
theorem dL_agrees_465 : decode cL_agrees 465 = .ok (.iconst 0, 1) := by decide +kernel
theorem dL_agrees_466 : decode cL_agrees 466 = .ok (.ireturn, 1) := by decide +kernel
theorem dL_jams_0 : decode cL_jams 0 = .ok (.iload_n 2, 1) := by decide +kernel
theorem dL_jams_1 : decode cL_jams 1 = .ok (.ifCond .eq 22, 3) := by decide +kernel
theorem dL_jams_4 : decode cL_jams 4 = .ok (.iload_n 2, 1) := by decide +kernel
theorem dL_jams_5 : decode cL_jams 5 = .ok (.aload_n 1, 1) := by decide +kernel
theorem dL_jams_6 : decode cL_jams 6 = .ok (.getfield 78, 3) := by decide +kernel
theorem dL_jams_9 : decode cL_jams 9 = .ok (.iconst 1, 1) := by decide +kernel
theorem dL_jams_10 : decode cL_jams 10 = .ok (.isub, 1) := by decide +kernel
theorem dL_jams_11 : decode cL_jams 11 = .ok (.if_icmp .eq 12, 3) := by decide +kernel
theorem dL_jams_14 : decode cL_jams 14 = .ok (.aload_n 1, 1) := by decide +kernel
theorem dL_jams_15 : decode cL_jams 15 = .ok (.getfield 131, 3) := by decide +kernel
theorem dL_jams_18 : decode cL_jams 18 = .ok (.iload_n 2, 1) := by decide +kernel
theorem dL_jams_19 : decode cL_jams 19 = .ok (.iaload, 1) := by decide +kernel
theorem dL_jams_20 : decode cL_jams 20 = .ok (.ifCond .lt 7, 3) := by decide +kernel
theorem dL_jams_23 : decode cL_jams 23 = .ok (.iconst 1, 1) := by decide +kernel
theorem dL_jams_24 : decode cL_jams 24 = .ok (.goto 4, 3) := by decide +kernel
theorem dL_jams_27 : decode cL_jams 27 = .ok (.iconst 0, 1) := by decide +kernel
theorem dL_jams_28 : decode cL_jams 28 = .ok (.istore_n 3, 1) := by decide +kernel
theorem dL_jams_29 : decode cL_jams 29 = .ok (.iload_n 3, 1) := by decide +kernel
theorem dL_jams_30 : decode cL_jams 30 = .ok (.ifCond .ne 19, 3) := by decide +kernel
theorem dL_jams_33 : decode cL_jams 33 = .ok (.aload_n 0, 1) := by decide +kernel
theorem dL_jams_34 : decode cL_jams 34 = .ok (.iload_n 2, 1) := by decide +kernel
theorem dL_jams_35 : decode cL_jams 35 = .ok (.invokevirtual 134, 3) := by decide +kernel
theorem dL_jams_38 : decode cL_jams 38 = .ok (.bipush 45, 2) := by decide +kernel
theorem dL_jams_40 : decode cL_jams 40 = .ok (.if_icmp .ne 7, 3) := by decide +kernel
theorem dL_jams_43 : decode cL_jams 43 = .ok (.iconst 1, 1) := by decide +kernel
theorem dL_jams_44 : decode cL_jams 44 = .ok (.goto 4, 3) := by decide +kernel
theorem dL_jams_47 : decode cL_jams 47 = .ok (.iconst 0, 1) := by decide +kernel
theorem dL_jams_48 : decode cL_jams 48 = .ok (.ireturn, 1) := by decide +kernel
theorem dL_jams_49 : decode cL_jams 49 = .ok (.aload_n 1, 1) := by decide +kernel
theorem dL_jams_50 : decode cL_jams 50 = .ok (.getfield 137, 3) := by decide +kernel
theorem dL_jams_53 : decode cL_jams 53 = .ok (.iload_n 2, 1) := by decide +kernel
theorem dL_jams_54 : decode cL_jams 54 = .ok (.aload_n 1, 1) := by decide +kernel
theorem dL_jams_55 : decode cL_jams 55 = .ok (.getfield 137, 3) := by decide +kernel
theorem dL_jams_58 : decode cL_jams 58 = .ok (.iload_n 2, 1) := by decide +kernel
theorem dL_jams_59 : decode cL_jams 59 = .ok (.baload, 1) := by decide +kernel
theorem dL_jams_60 : decode cL_jams 60 = .ok (.ifCond .ne 7, 3) := by decide +kernel
theorem dL_jams_63 : decode cL_jams 63 = .ok (.iconst 1, 1) := by decide +kernel
theorem dL_jams_64 : decode cL_jams 64 = .ok (.goto 4, 3) := by decide +kernel
theorem dL_jams_67 : decode cL_jams 67 = .ok (.iconst 0, 1) := by decide +kernel
theorem dL_jams_68 : decode cL_jams 68 = .ok (.bastore, 1) := by decide +kernel
theorem dL_jams_69 : decode cL_jams 69 = .ok (.aload_n 1, 1) := by decide +kernel
theorem dL_jams_70 : decode cL_jams 70 = .ok (.getfield 137, 3) := by decide +kernel
theorem dL_jams_73 : decode cL_jams 73 = .ok (.iload_n 2, 1) := by decide +kernel
theorem dL_jams_74 : decode cL_jams 74 = .ok (.baload, 1) := by decide +kernel
theorem dL_jams_75 : decode cL_jams 75 = .ok (.ifCond .eq 11, 3) := by decide +kernel
theorem dL_jams_78 : decode cL_jams 78 = .ok (.aload_n 0, 1) := by decide +kernel
theorem dL_jams_79 : decode cL_jams 79 = .ok (.iload_n 2, 1) := by decide +kernel
theorem dL_jams_80 : decode cL_jams 80 = .ok (.invokevirtual 141, 3) := by decide +kernel
theorem dL_jams_83 : decode cL_jams 83 = .ok (.goto 8, 3) := by decide +kernel
theorem dL_jams_86 : decode cL_jams 86 = .ok (.aload_n 0, 1) := by decide +kernel
theorem dL_jams_87 : decode cL_jams 87 = .ok (.iload_n 2, 1) := by decide +kernel
theorem dL_jams_88 : decode cL_jams 88 = .ok (.invokevirtual 144, 3) := by decide +kernel
theorem dL_jams_91 : decode cL_jams 91 = .ok (.aload_n 1, 1) := by decide +kernel
theorem dL_jams_92 : decode cL_jams 92 = .ok (.invokevirtual 147, 3) := by decide +kernel
theorem dL_jams_95 : decode cL_jams 95 = .ok (.if_icmp .ne 41, 3) := by decide +kernel
theorem dL_jams_98 : decode cL_jams 98 = .ok (.aload_n 0, 1) := by decide +kernel
theorem dL_jams_99 : decode cL_jams 99 = .ok (.iload_n 2, 1) := by decide +kernel
theorem dL_jams_100 : decode cL_jams 100 = .ok (.invokevirtual 134, 3) := by decide +kernel
theorem dL_jams_103 : decode cL_jams 103 = .ok (.iload_n 2, 1) := by decide +kernel
theorem dL_jams_104 : decode cL_jams 104 = .ok (.ifCond .ne 8, 3) := by decide +kernel
theorem dL_jams_107 : decode cL_jams 107 = .ok (.bipush 105, 2) := by decide +kernel
theorem dL_jams_109 : decode cL_jams 109 = .ok (.goto 20, 3) := by decide +kernel
theorem dL_jams_112 : decode cL_jams 112 = .ok (.iload_n 2, 1) := by decide +kernel
theorem dL_jams_113 : decode cL_jams 113 = .ok (.aload_n 1, 1) := by decide +kernel
theorem dL_jams_114 : decode cL_jams 114 = .ok (.getfield 78, 3) := by decide +kernel
theorem dL_jams_117 : decode cL_jams 117 = .ok (.iconst 1, 1) := by decide +kernel
theorem dL_jams_118 : decode cL_jams 118 = .ok (.isub, 1) := by decide +kernel
theorem dL_jams_119 : decode cL_jams 119 = .ok (.if_icmp .ne 8, 3) := by decide +kernel
theorem dL_jams_122 : decode cL_jams 122 = .ok (.bipush 111, 2) := by decide +kernel
theorem dL_jams_124 : decode cL_jams 124 = .ok (.goto 5, 3) := by decide +kernel
theorem dL_jams_127 : decode cL_jams 127 = .ok (.bipush 99, 2) := by decide +kernel
theorem dL_jams_129 : decode cL_jams 129 = .ok (.if_icmp .ne 7, 3) := by decide +kernel
theorem dL_jams_132 : decode cL_jams 132 = .ok (.iconst 1, 1) := by decide +kernel
theorem dL_jams_133 : decode cL_jams 133 = .ok (.goto 4, 3) := by decide +kernel
theorem dL_jams_136 : decode cL_jams 136 = .ok (.iconst 0, 1) := by decide +kernel
theorem dL_jams_137 : decode cL_jams 137 = .ok (.ireturn, 1) := by decide +kernel
theorem dL_empties_0 : decode cL_empties 0 = .ok (.aload_n 1, 1) := by decide +kernel
theorem dL_empties_1 : decode cL_empties 1 = .ok (.getfield 99, 3) := by decide +kernel
theorem dL_empties_4 : decode cL_empties 4 = .ok (.iload_n 2, 1) := by decide +kernel
theorem dL_empties_5 : decode cL_empties 5 = .ok (.iaload, 1) := by decide +kernel
theorem dL_empties_6 : decode cL_empties 6 = .ok (.ifCond .ne 5, 3) := by decide +kernel
theorem dL_empties_9 : decode cL_empties 9 = .ok (.iconst 1, 1) := by decide +kernel
theorem dL_empties_10 : decode cL_empties 10 = .ok (.ireturn, 1) := by decide +kernel
theorem dL_empties_11 : decode cL_empties 11 = .ok (.aload_n 1, 1) := by decide +kernel
theorem dL_empties_12 : decode cL_empties 12 = .ok (.iload_n 2, 1) := by decide +kernel
theorem dL_empties_13 : decode cL_empties 13 = .ok (.invokevirtual 105, 3) := by decide +kernel
theorem dL_empties_16 : decode cL_empties 16 = .ok (.istore_n 3, 1) := by decide +kernel
theorem dL_empties_17 : decode cL_empties 17 = .ok (.aload_n 0, 1) := by decide +kernel
theorem dL_empties_18 : decode cL_empties 18 = .ok (.iload_n 2, 1) := by decide +kernel
theorem dL_empties_19 : decode cL_empties 19 = .ok (.invokevirtual 150, 3) := by decide +kernel
theorem dL_empties_22 : decode cL_empties 22 = .ok (.iload_n 3, 1) := by decide +kernel
theorem dL_empties_23 : decode cL_empties 23 = .ok (.if_icmp .ne 19, 3) := by decide +kernel
theorem dL_empties_26 : decode cL_empties 26 = .ok (.aload_n 0, 1) := by decide +kernel
theorem dL_empties_27 : decode cL_empties 27 = .ok (.aload_n 1, 1) := by decide +kernel
theorem dL_empties_28 : decode cL_empties 28 = .ok (.getfield 70, 3) := by decide +kernel
theorem dL_empties_31 : decode cL_empties 31 = .ok (.invokevirtual 153, 3) := by decide +kernel
theorem dL_empties_34 : decode cL_empties 34 = .ok (.iload_n 3, 1) := by decide +kernel
theorem dL_empties_35 : decode cL_empties 35 = .ok (.if_icmp .ne 7, 3) := by decide +kernel
theorem dL_empties_38 : decode cL_empties 38 = .ok (.iconst 1, 1) := by decide +kernel
theorem dL_empties_39 : decode cL_empties 39 = .ok (.goto 4, 3) := by decide +kernel
theorem dL_empties_42 : decode cL_empties 42 = .ok (.iconst 0, 1) := by decide +kernel
theorem dL_empties_43 : decode cL_empties 43 = .ok (.istore 4, 2) := by decide +kernel
theorem dL_empties_45 : decode cL_empties 45 = .ok (.iconst 0, 1) := by decide +kernel
theorem dL_empties_46 : decode cL_empties 46 = .ok (.istore 5, 2) := by decide +kernel
theorem dL_empties_48 : decode cL_empties 48 = .ok (.iload 5, 2) := by decide +kernel
theorem dL_empties_50 : decode cL_empties 50 = .ok (.aload_n 1, 1) := by decide +kernel
theorem dL_empties_51 : decode cL_empties 51 = .ok (.getfield 99, 3) := by decide +kernel
theorem dL_empties_54 : decode cL_empties 54 = .ok (.iload_n 2, 1) := by decide +kernel
theorem dL_empties_55 : decode cL_empties 55 = .ok (.iaload, 1) := by decide +kernel
theorem dL_empties_56 : decode cL_empties 56 = .ok (.if_icmp .ge 84, 3) := by decide +kernel
theorem dL_empties_59 : decode cL_empties 59 = .ok (.aload_n 1, 1) := by decide +kernel
theorem dL_empties_60 : decode cL_empties 60 = .ok (.getfield 156, 3) := by decide +kernel
theorem dL_empties_63 : decode cL_empties 63 = .ok (.iload_n 2, 1) := by decide +kernel
theorem dL_empties_64 : decode cL_empties 64 = .ok (.aaload, 1) := by decide +kernel
theorem dL_empties_65 : decode cL_empties 65 = .ok (.iload 5, 2) := by decide +kernel
theorem dL_empties_67 : decode cL_empties 67 = .ok (.iaload, 1) := by decide +kernel
theorem dL_empties_68 : decode cL_empties 68 = .ok (.istore 6, 2) := by decide +kernel
theorem dL_empties_70 : decode cL_empties 70 = .ok (.iload 4, 2) := by decide +kernel
theorem dL_empties_72 : decode cL_empties 72 = .ok (.ifCond .eq 22, 3) := by decide +kernel
theorem dL_empties_75 : decode cL_empties 75 = .ok (.aload_n 0, 1) := by decide +kernel
theorem dL_empties_76 : decode cL_empties 76 = .ok (.aload_n 1, 1) := by decide +kernel
theorem dL_empties_77 : decode cL_empties 77 = .ok (.getfield 70, 3) := by decide +kernel
theorem dL_empties_80 : decode cL_empties 80 = .ok (.iload 5, 2) := by decide +kernel
theorem dL_empties_82 : decode cL_empties 82 = .ok (.invokevirtual 160, 3) := by decide +kernel
theorem dL_empties_85 : decode cL_empties 85 = .ok (.iload 6, 2) := by decide +kernel
theorem dL_empties_87 : decode cL_empties 87 = .ok (.if_icmp .ne 7, 3) := by decide +kernel
theorem dL_empties_90 : decode cL_empties 90 = .ok (.iconst 1, 1) := by decide +kernel
theorem dL_empties_91 : decode cL_empties 91 = .ok (.goto 4, 3) := by decide +kernel
theorem dL_empties_94 : decode cL_empties 94 = .ok (.iconst 0, 1) := by decide +kernel
theorem dL_empties_95 : decode cL_empties 95 = .ok (.istore 4, 2) := by decide +kernel
theorem dL_empties_97 : decode cL_empties 97 = .ok (.aload_n 1, 1) := by decide +kernel
theorem dL_empties_98 : decode cL_empties 98 = .ok (.getfield 26, 3) := by decide +kernel
theorem dL_empties_101 : decode cL_empties 101 = .ok (.iload 6, 2) := by decide +kernel
theorem dL_empties_103 : decode cL_empties 103 = .ok (.bipush 116, 2) := by decide +kernel
theorem dL_empties_105 : decode cL_empties 105 = .ok (.castore, 1) := by decide +kernel
theorem dL_empties_106 : decode cL_empties 106 = .ok (.aload_n 1, 1) := by decide +kernel
theorem dL_empties_107 : decode cL_empties 107 = .ok (.getfield 44, 3) := by decide +kernel
theorem dL_empties_110 : decode cL_empties 110 = .ok (.iload 6, 2) := by decide +kernel
theorem dL_empties_112 : decode cL_empties 112 = .ok (.aload_n 1, 1) := by decide +kernel
theorem dL_empties_113 : decode cL_empties 113 = .ok (.getfield 70, 3) := by decide +kernel
theorem dL_empties_116 : decode cL_empties 116 = .ok (.iastore, 1) := by decide +kernel
theorem dL_empties_117 : decode cL_empties 117 = .ok (.aload_n 1, 1) := by decide +kernel
theorem dL_empties_118 : decode cL_empties 118 = .ok (.dup, 1) := by decide +kernel
theorem dL_empties_119 : decode cL_empties 119 = .ok (.getfield 75, 3) := by decide +kernel
theorem dL_empties_122 : decode cL_empties 122 = .ok (.aload_n 1, 1) := by decide +kernel
theorem dL_empties_123 : decode cL_empties 123 = .ok (.getfield 164, 3) := by decide +kernel
theorem dL_empties_126 : decode cL_empties 126 = .ok (.iload 6, 2) := by decide +kernel
theorem dL_empties_128 : decode cL_empties 128 = .ok (.iaload, 1) := by decide +kernel
theorem dL_empties_129 : decode cL_empties 129 = .ok (.i2l, 1) := by decide +kernel
theorem dL_empties_130 : decode cL_empties 130 = .ok (.ladd, 1) := by decide +kernel
theorem dL_empties_131 : decode cL_empties 131 = .ok (.putfield 75, 3) := by decide +kernel
theorem dL_empties_134 : decode cL_empties 134 = .ok (.iinc 5 1, 3) := by decide +kernel
theorem dL_empties_137 : decode cL_empties 137 = .ok (.goto (-89), 3) := by decide +kernel
theorem dL_empties_140 : decode cL_empties 140 = .ok (.aload_n 1, 1) := by decide +kernel
theorem dL_empties_141 : decode cL_empties 141 = .ok (.dup, 1) := by decide +kernel
theorem dL_empties_142 : decode cL_empties 142 = .ok (.getfield 70, 3) := by decide +kernel
theorem dL_empties_145 : decode cL_empties 145 = .ok (.iconst 1, 1) := by decide +kernel
theorem dL_empties_146 : decode cL_empties 146 = .ok (.iadd, 1) := by decide +kernel
theorem dL_empties_147 : decode cL_empties 147 = .ok (.putfield 70, 3) := by decide +kernel
theorem dL_empties_150 : decode cL_empties 150 = .ok (.aload_n 1, 1) := by decide +kernel
theorem dL_empties_151 : decode cL_empties 151 = .ok (.getfield 99, 3) := by decide +kernel
theorem dL_empties_154 : decode cL_empties 154 = .ok (.iload_n 2, 1) := by decide +kernel
theorem dL_empties_155 : decode cL_empties 155 = .ok (.iconst 0, 1) := by decide +kernel
theorem dL_empties_156 : decode cL_empties 156 = .ok (.iastore, 1) := by decide +kernel
theorem dL_empties_157 : decode cL_empties 157 = .ok (.iload 4, 2) := by decide +kernel
theorem dL_empties_159 : decode cL_empties 159 = .ok (.ireturn, 1) := by decide +kernel
theorem dL_acts_0 : decode cL_acts 0 = .ok (.iload_n 2, 1) := by decide +kernel
theorem dL_acts_1 : decode cL_acts 1 = .ok (.iconst 3, 1) := by decide +kernel
theorem dL_acts_2 : decode cL_acts 2 = .ok (.ishr, 1) := by decide +kernel
theorem dL_acts_3 : decode cL_acts 3 = .ok (.bipush 8, 2) := by decide +kernel
theorem dL_acts_5 : decode cL_acts 5 = .ok (.invokestatic 167, 3) := by decide +kernel
theorem dL_acts_8 : decode cL_acts 8 = .ok (.istore_n 3, 1) := by decide +kernel
theorem dL_acts_9 : decode cL_acts 9 = .ok (.iload_n 2, 1) := by decide +kernel
theorem dL_acts_10 : decode cL_acts 10 = .ok (.bipush 6, 2) := by decide +kernel
theorem dL_acts_12 : decode cL_acts 12 = .ok (.ishr, 1) := by decide +kernel
theorem dL_acts_13 : decode cL_acts 13 = .ok (.iconst 1, 1) := by decide +kernel
theorem dL_acts_14 : decode cL_acts 14 = .ok (.aload_n 1, 1) := by decide +kernel
theorem dL_acts_15 : decode cL_acts 15 = .ok (.getfield 93, 3) := by decide +kernel
theorem dL_acts_18 : decode cL_acts 18 = .ok (.invokestatic 170, 3) := by decide +kernel
theorem dL_acts_21 : decode cL_acts 21 = .ok (.invokestatic 167, 3) := by decide +kernel
theorem dL_acts_24 : decode cL_acts 24 = .ok (.istore 4, 2) := by decide +kernel
theorem dL_acts_26 : decode cL_acts 26 = .ok (.iload_n 2, 1) := by decide +kernel
theorem dL_acts_27 : decode cL_acts 27 = .ok (.bipush 9, 2) := by decide +kernel
theorem dL_acts_29 : decode cL_acts 29 = .ok (.invokestatic 167, 3) := by decide +kernel
theorem dL_acts_32 : decode cL_acts 32 = .ok (.tableswitch 517 0 7 #[48, 48, 187, 187, 187, 296, 378, 395], 48) := by decide +kernel
theorem dL_acts_80 : decode cL_acts 80 = .ok (.iconst 1, 1) := by decide +kernel
theorem dL_acts_81 : decode cL_acts 81 = .ok (.istore 5, 2) := by decide +kernel
theorem dL_acts_83 : decode cL_acts 83 = .ok (.iload_n 2, 1) := by decide +kernel
theorem dL_acts_84 : decode cL_acts 84 = .ok (.bipush 9, 2) := by decide +kernel
theorem dL_acts_86 : decode cL_acts 86 = .ok (.ishr, 1) := by decide +kernel
theorem dL_acts_87 : decode cL_acts 87 = .ok (.iconst 4, 1) := by decide +kernel
theorem dL_acts_88 : decode cL_acts 88 = .ok (.invokestatic 167, 3) := by decide +kernel
theorem dL_acts_91 : decode cL_acts 91 = .ok (.istore 6, 2) := by decide +kernel
theorem dL_acts_93 : decode cL_acts 93 = .ok (.iload 6, 2) := by decide +kernel
theorem dL_acts_95 : decode cL_acts 95 = .ok (.ifCond .lt 121, 3) := by decide +kernel
theorem dL_acts_98 : decode cL_acts 98 = .ok (.aload_n 1, 1) := by decide +kernel
theorem dL_acts_99 : decode cL_acts 99 = .ok (.getfield 20, 3) := by decide +kernel
theorem dL_acts_102 : decode cL_acts 102 = .ok (.bipush 60, 2) := by decide +kernel
theorem dL_acts_104 : decode cL_acts 104 = .ok (.if_icmp .ge 112, 3) := by decide +kernel
theorem dL_acts_107 : decode cL_acts 107 = .ok (.iload 5, 2) := by decide +kernel
theorem dL_acts_109 : decode cL_acts 109 = .ok (.ifCond .eq 107, 3) := by decide +kernel
theorem dL_acts_112 : decode cL_acts 112 = .ok (.aload_n 1, 1) := by decide +kernel
theorem dL_acts_113 : decode cL_acts 113 = .ok (.getfield 175, 3) := by decide +kernel
theorem dL_acts_116 : decode cL_acts 116 = .ok (.aload_n 1, 1) := by decide +kernel
theorem dL_acts_117 : decode cL_acts 117 = .ok (.getfield 20, 3) := by decide +kernel
theorem dL_acts_120 : decode cL_acts 120 = .ok (.iload_n 3, 1) := by decide +kernel
theorem dL_acts_121 : decode cL_acts 121 = .ok (.iload 6, 2) := by decide +kernel
theorem dL_acts_123 : decode cL_acts 123 = .ok (.iadd, 1) := by decide +kernel
theorem dL_acts_124 : decode cL_acts 124 = .ok (.bipush 8, 2) := by decide +kernel
theorem dL_acts_126 : decode cL_acts 126 = .ok (.invokestatic 167, 3) := by decide +kernel
theorem dL_acts_129 : decode cL_acts 129 = .ok (.iastore, 1) := by decide +kernel
theorem dL_acts_130 : decode cL_acts 130 = .ok (.aload_n 1, 1) := by decide +kernel
theorem dL_acts_131 : decode cL_acts 131 = .ok (.getfield 164, 3) := by decide +kernel
theorem dL_acts_134 : decode cL_acts 134 = .ok (.aload_n 1, 1) := by decide +kernel
theorem dL_acts_135 : decode cL_acts 135 = .ok (.getfield 20, 3) := by decide +kernel
theorem dL_acts_138 : decode cL_acts 138 = .ok (.iconst 1, 1) := by decide +kernel
theorem dL_acts_139 : decode cL_acts 139 = .ok (.iload_n 2, 1) := by decide +kernel
theorem dL_acts_140 : decode cL_acts 140 = .ok (.bipush 11, 2) := by decide +kernel
theorem dL_acts_142 : decode cL_acts 142 = .ok (.iload 6, 2) := by decide +kernel
theorem dL_acts_144 : decode cL_acts 144 = .ok (.iadd, 1) := by decide +kernel
theorem dL_acts_145 : decode cL_acts 145 = .ok (.ishr, 1) := by decide +kernel
theorem dL_acts_146 : decode cL_acts 146 = .ok (.bipush 9, 2) := by decide +kernel
theorem dL_acts_148 : decode cL_acts 148 = .ok (.invokestatic 167, 3) := by decide +kernel
theorem dL_acts_151 : decode cL_acts 151 = .ok (.iadd, 1) := by decide +kernel
theorem dL_acts_152 : decode cL_acts 152 = .ok (.iastore, 1) := by decide +kernel
theorem dL_acts_153 : decode cL_acts 153 = .ok (.aload_n 1, 1) := by decide +kernel
theorem dL_acts_154 : decode cL_acts 154 = .ok (.getfield 26, 3) := by decide +kernel
theorem dL_acts_157 : decode cL_acts 157 = .ok (.aload_n 1, 1) := by decide +kernel
theorem dL_acts_158 : decode cL_acts 158 = .ok (.getfield 20, 3) := by decide +kernel
theorem dL_acts_161 : decode cL_acts 161 = .ok (.bipush 119, 2) := by decide +kernel
theorem dL_acts_163 : decode cL_acts 163 = .ok (.castore, 1) := by decide +kernel
theorem dL_acts_164 : decode cL_acts 164 = .ok (.aload_n 0, 1) := by decide +kernel
theorem dL_acts_165 : decode cL_acts 165 = .ok (.aload_n 1, 1) := by decide +kernel
theorem dL_acts_166 : decode cL_acts 166 = .ok (.getfield 175, 3) := by decide +kernel
theorem dL_acts_169 : decode cL_acts 169 = .ok (.aload_n 1, 1) := by decide +kernel
theorem dL_acts_170 : decode cL_acts 170 = .ok (.getfield 20, 3) := by decide +kernel
theorem dL_acts_173 : decode cL_acts 173 = .ok (.iaload, 1) := by decide +kernel
theorem dL_acts_174 : decode cL_acts 174 = .ok (.aload_n 1, 1) := by decide +kernel
theorem dL_acts_175 : decode cL_acts 175 = .ok (.getfield 164, 3) := by decide +kernel
theorem dL_acts_178 : decode cL_acts 178 = .ok (.aload_n 1, 1) := by decide +kernel
theorem dL_acts_179 : decode cL_acts 179 = .ok (.getfield 20, 3) := by decide +kernel
theorem dL_acts_182 : decode cL_acts 182 = .ok (.iaload, 1) := by decide +kernel
theorem dL_acts_183 : decode cL_acts 183 = .ok (.invokevirtual 178, 3) := by decide +kernel
theorem dL_acts_186 : decode cL_acts 186 = .ok (.aload_n 1, 1) := by decide +kernel
theorem dL_acts_187 : decode cL_acts 187 = .ok (.getfield 20, 3) := by decide +kernel
theorem dL_acts_190 : decode cL_acts 190 = .ok (.if_icmp .ne 7, 3) := by decide +kernel
theorem dL_acts_193 : decode cL_acts 193 = .ok (.iconst 1, 1) := by decide +kernel
theorem dL_acts_194 : decode cL_acts 194 = .ok (.goto 4, 3) := by decide +kernel
theorem dL_acts_197 : decode cL_acts 197 = .ok (.iconst 0, 1) := by decide +kernel
theorem dL_acts_198 : decode cL_acts 198 = .ok (.istore 5, 2) := by decide +kernel
theorem dL_acts_200 : decode cL_acts 200 = .ok (.aload_n 1, 1) := by decide +kernel
theorem dL_acts_201 : decode cL_acts 201 = .ok (.dup, 1) := by decide +kernel
theorem dL_acts_202 : decode cL_acts 202 = .ok (.getfield 20, 3) := by decide +kernel
theorem dL_acts_205 : decode cL_acts 205 = .ok (.iconst 1, 1) := by decide +kernel
theorem dL_acts_206 : decode cL_acts 206 = .ok (.iadd, 1) := by decide +kernel
theorem dL_acts_207 : decode cL_acts 207 = .ok (.putfield 20, 3) := by decide +kernel
theorem dL_acts_210 : decode cL_acts 210 = .ok (.iinc 6 (-1), 3) := by decide +kernel
theorem dL_acts_213 : decode cL_acts 213 = .ok (.goto (-120), 3) := by decide +kernel
theorem dL_acts_216 : decode cL_acts 216 = .ok (.iload 5, 2) := by decide +kernel
theorem dL_acts_218 : decode cL_acts 218 = .ok (.ireturn, 1) := by decide +kernel
theorem dL_acts_219 : decode cL_acts 219 = .ok (.iconst 1, 1) := by decide +kernel
theorem dL_acts_220 : decode cL_acts 220 = .ok (.iload_n 2, 1) := by decide +kernel
theorem dL_acts_221 : decode cL_acts 221 = .ok (.bipush 9, 2) := by decide +kernel
theorem dL_acts_223 : decode cL_acts 223 = .ok (.ishr, 1) := by decide +kernel
theorem dL_acts_224 : decode cL_acts 224 = .ok (.iload_n 2, 1) := by decide +kernel
theorem dL_acts_225 : decode cL_acts 225 = .ok (.iconst 4, 1) := by decide +kernel
theorem dL_acts_226 : decode cL_acts 226 = .ok (.invokestatic 167, 3) := by decide +kernel
theorem dL_acts_229 : decode cL_acts 229 = .ok (.ifCond .ne 8, 3) := by decide +kernel
theorem dL_acts_232 : decode cL_acts 232 = .ok (.bipush 90, 2) := by decide +kernel
theorem dL_acts_234 : decode cL_acts 234 = .ok (.goto 5, 3) := by decide +kernel
theorem dL_acts_237 : decode cL_acts 237 = .ok (.bipush 20, 2) := by decide +kernel
theorem dL_acts_239 : decode cL_acts 239 = .ok (.invokestatic 167, 3) := by decide +kernel
theorem dL_acts_242 : decode cL_acts 242 = .ok (.iadd, 1) := by decide +kernel
theorem dL_acts_243 : decode cL_acts 243 = .ok (.istore 5, 2) := by decide +kernel
theorem dL_acts_245 : decode cL_acts 245 = .ok (.aload_n 0, 1) := by decide +kernel
theorem dL_acts_246 : decode cL_acts 246 = .ok (.iload 5, 2) := by decide +kernel
theorem dL_acts_248 : decode cL_acts 248 = .ok (.invokevirtual 181, 3) := by decide +kernel
theorem dL_acts_251 : decode cL_acts 251 = .ok (.istore 6, 2) := by decide +kernel
theorem dL_acts_253 : decode cL_acts 253 = .ok (.iconst 0, 1) := by decide +kernel
theorem dL_acts_254 : decode cL_acts 254 = .ok (.istore 7, 2) := by decide +kernel
theorem dL_acts_256 : decode cL_acts 256 = .ok (.iload 6, 2) := by decide +kernel
theorem dL_acts_258 : decode cL_acts 258 = .ok (.aload_n 0, 1) := by decide +kernel
theorem dL_acts_259 : decode cL_acts 259 = .ok (.iload 5, 2) := by decide +kernel
theorem dL_acts_261 : decode cL_acts 261 = .ok (.invokevirtual 184, 3) := by decide +kernel
theorem dL_acts_264 : decode cL_acts 264 = .ok (.if_icmp .ne 7, 3) := by decide +kernel
theorem dL_acts_267 : decode cL_acts 267 = .ok (.iconst 1, 1) := by decide +kernel
theorem dL_acts_268 : decode cL_acts 268 = .ok (.goto 4, 3) := by decide +kernel
theorem dL_acts_271 : decode cL_acts 271 = .ok (.iconst 0, 1) := by decide +kernel
theorem dL_acts_272 : decode cL_acts 272 = .ok (.istore 8, 2) := by decide +kernel
theorem dL_acts_274 : decode cL_acts 274 = .ok (.iconst 0, 1) := by decide +kernel
theorem dL_acts_275 : decode cL_acts 275 = .ok (.istore 9, 2) := by decide +kernel
theorem dL_acts_277 : decode cL_acts 277 = .ok (.iload 9, 2) := by decide +kernel
theorem dL_acts_279 : decode cL_acts 279 = .ok (.iload 5, 2) := by decide +kernel
theorem dL_acts_281 : decode cL_acts 281 = .ok (.if_icmp .ge 18, 3) := by decide +kernel
theorem dL_acts_284 : decode cL_acts 284 = .ok (.iload 7, 2) := by decide +kernel
theorem dL_acts_286 : decode cL_acts 286 = .ok (.aload_n 1, 1) := by decide +kernel
theorem dL_acts_287 : decode cL_acts 287 = .ok (.invokevirtual 187, 3) := by decide +kernel
theorem dL_acts_290 : decode cL_acts 290 = .ok (.iadd, 1) := by decide +kernel
theorem dL_acts_291 : decode cL_acts 291 = .ok (.istore 7, 2) := by decide +kernel
theorem dL_acts_293 : decode cL_acts 293 = .ok (.iinc 9 1, 3) := by decide +kernel
theorem dL_acts_296 : decode cL_acts 296 = .ok (.goto (-19), 3) := by decide +kernel
theorem dL_acts_299 : decode cL_acts 299 = .ok (.iload 8, 2) := by decide +kernel
theorem dL_acts_301 : decode cL_acts 301 = .ok (.ifCond .eq 25, 3) := by decide +kernel
theorem dL_acts_304 : decode cL_acts 304 = .ok (.iload 6, 2) := by decide +kernel
theorem dL_acts_306 : decode cL_acts 306 = .ok (.iload 7, 2) := by decide +kernel
theorem dL_acts_308 : decode cL_acts 308 = .ok (.if_icmp .ne 18, 3) := by decide +kernel
theorem dL_acts_311 : decode cL_acts 311 = .ok (.aload_n 0, 1) := by decide +kernel
theorem dL_acts_312 : decode cL_acts 312 = .ok (.iload 5, 2) := by decide +kernel
theorem dL_acts_314 : decode cL_acts 314 = .ok (.invokevirtual 189, 3) := by decide +kernel
theorem dL_acts_317 : decode cL_acts 317 = .ok (.iload 7, 2) := by decide +kernel
theorem dL_acts_319 : decode cL_acts 319 = .ok (.if_icmp .ne 7, 3) := by decide +kernel
theorem dL_acts_322 : decode cL_acts 322 = .ok (.iconst 1, 1) := by decide +kernel
theorem dL_acts_323 : decode cL_acts 323 = .ok (.goto 4, 3) := by decide +kernel
theorem dL_acts_326 : decode cL_acts 326 = .ok (.iconst 0, 1) := by decide +kernel
theorem dL_acts_327 : decode cL_acts 327 = .ok (.ireturn, 1) := by decide +kernel
theorem dL_acts_328 : decode cL_acts 328 = .ok (.aload_n 1, 1) := by decide +kernel
theorem dL_acts_329 : decode cL_acts 329 = .ok (.getfield 93, 3) := by decide +kernel
theorem dL_acts_332 : decode cL_acts 332 = .ok (.ifCond .ne 5, 3) := by decide +kernel
theorem dL_acts_335 : decode cL_acts 335 = .ok (.iconst 1, 1) := by decide +kernel
theorem dL_acts_336 : decode cL_acts 336 = .ok (.ireturn, 1) := by decide +kernel
theorem dL_acts_337 : decode cL_acts 337 = .ok (.aload_n 1, 1) := by decide +kernel
theorem dL_acts_338 : decode cL_acts 338 = .ok (.getfield 115, 3) := by decide +kernel
theorem dL_acts_341 : decode cL_acts 341 = .ok (.iload_n 3, 1) := by decide +kernel
theorem dL_acts_342 : decode cL_acts 342 = .ok (.iaload, 1) := by decide +kernel
theorem dL_acts_343 : decode cL_acts 343 = .ok (.istore 5, 2) := by decide +kernel
theorem dL_acts_345 : decode cL_acts 345 = .ok (.iload 5, 2) := by decide +kernel
theorem dL_acts_347 : decode cL_acts 347 = .ok (.ifCond .lt 37, 3) := by decide +kernel
theorem dL_acts_350 : decode cL_acts 350 = .ok (.iload_n 2, 1) := by decide +kernel
theorem dL_acts_351 : decode cL_acts 351 = .ok (.bipush 9, 2) := by decide +kernel
theorem dL_acts_353 : decode cL_acts 353 = .ok (.ishr, 1) := by decide +kernel
theorem dL_acts_354 : decode cL_acts 354 = .ok (.iconst 4, 1) := by decide +kernel
theorem dL_acts_355 : decode cL_acts 355 = .ok (.invokestatic 167, 3) := by decide +kernel
theorem dL_acts_358 : decode cL_acts 358 = .ok (.ifCond .ne 26, 3) := by decide +kernel
theorem dL_acts_361 : decode cL_acts 361 = .ok (.aload_n 1, 1) := by decide +kernel
theorem dL_acts_362 : decode cL_acts 362 = .ok (.getfield 115, 3) := by decide +kernel
theorem dL_acts_365 : decode cL_acts 365 = .ok (.iload_n 3, 1) := by decide +kernel
theorem dL_acts_366 : decode cL_acts 366 = .ok (.iconst (-1), 1) := by decide +kernel
theorem dL_acts_367 : decode cL_acts 367 = .ok (.iastore, 1) := by decide +kernel
theorem dL_acts_368 : decode cL_acts 368 = .ok (.aload_n 0, 1) := by decide +kernel
theorem dL_acts_369 : decode cL_acts 369 = .ok (.iload_n 3, 1) := by decide +kernel
theorem dL_acts_370 : decode cL_acts 370 = .ok (.invokevirtual 192, 3) := by decide +kernel
theorem dL_acts_373 : decode cL_acts 373 = .ok (.iload 5, 2) := by decide +kernel
theorem dL_acts_375 : decode cL_acts 375 = .ok (.if_icmp .ne 7, 3) := by decide +kernel
theorem dL_acts_378 : decode cL_acts 378 = .ok (.iconst 1, 1) := by decide +kernel
theorem dL_acts_379 : decode cL_acts 379 = .ok (.goto 4, 3) := by decide +kernel
theorem dL_acts_382 : decode cL_acts 382 = .ok (.iconst 0, 1) := by decide +kernel
theorem dL_acts_383 : decode cL_acts 383 = .ok (.ireturn, 1) := by decide +kernel
theorem dL_acts_384 : decode cL_acts 384 = .ok (.aload_n 1, 1) := by decide +kernel
theorem dL_acts_385 : decode cL_acts 385 = .ok (.getfield 115, 3) := by decide +kernel
theorem dL_acts_388 : decode cL_acts 388 = .ok (.iload_n 3, 1) := by decide +kernel
theorem dL_acts_389 : decode cL_acts 389 = .ok (.iload 4, 2) := by decide +kernel
theorem dL_acts_391 : decode cL_acts 391 = .ok (.iastore, 1) := by decide +kernel
theorem dL_acts_392 : decode cL_acts 392 = .ok (.aload_n 0, 1) := by decide +kernel
theorem dL_acts_393 : decode cL_acts 393 = .ok (.iload_n 3, 1) := by decide +kernel
theorem dL_acts_394 : decode cL_acts 394 = .ok (.iload 4, 2) := by decide +kernel
theorem dL_acts_396 : decode cL_acts 396 = .ok (.invokevirtual 195, 3) := by decide +kernel
theorem dL_acts_399 : decode cL_acts 399 = .ok (.iload 5, 2) := by decide +kernel
theorem dL_acts_401 : decode cL_acts 401 = .ok (.if_icmp .ne 7, 3) := by decide +kernel
theorem dL_acts_404 : decode cL_acts 404 = .ok (.iconst 1, 1) := by decide +kernel
theorem dL_acts_405 : decode cL_acts 405 = .ok (.goto 4, 3) := by decide +kernel
theorem dL_acts_408 : decode cL_acts 408 = .ok (.iconst 0, 1) := by decide +kernel
theorem dL_acts_409 : decode cL_acts 409 = .ok (.ireturn, 1) := by decide +kernel
theorem dL_acts_410 : decode cL_acts 410 = .ok (.aload_n 0, 1) := by decide +kernel
theorem dL_acts_411 : decode cL_acts 411 = .ok (.aload_n 1, 1) := by decide +kernel
theorem dL_acts_412 : decode cL_acts 412 = .ok (.iload_n 2, 1) := by decide +kernel
theorem dL_acts_413 : decode cL_acts 413 = .ok (.bipush 6, 2) := by decide +kernel
theorem dL_acts_415 : decode cL_acts 415 = .ok (.ishr, 1) := by decide +kernel
theorem dL_acts_416 : decode cL_acts 416 = .ok (.aload_n 1, 1) := by decide +kernel
theorem dL_acts_417 : decode cL_acts 417 = .ok (.getfield 78, 3) := by decide +kernel
theorem dL_acts_420 : decode cL_acts 420 = .ok (.invokestatic 167, 3) := by decide +kernel
theorem dL_acts_423 : decode cL_acts 423 = .ok (.invokestatic 198, 3) := by decide +kernel
theorem dL_acts_426 : decode cL_acts 426 = .ok (.ireturn, 1) := by decide +kernel
theorem dL_acts_427 : decode cL_acts 427 = .ok (.iload_n 2, 1) := by decide +kernel
theorem dL_acts_428 : decode cL_acts 428 = .ok (.bipush 9, 2) := by decide +kernel
theorem dL_acts_430 : decode cL_acts 430 = .ok (.ishr, 1) := by decide +kernel
theorem dL_acts_431 : decode cL_acts 431 = .ok (.iconst 3, 1) := by decide +kernel
theorem dL_acts_432 : decode cL_acts 432 = .ok (.invokestatic 167, 3) := by decide +kernel
theorem dL_acts_435 : decode cL_acts 435 = .ok (.ifCond .ne 42, 3) := by decide +kernel
theorem dL_acts_438 : decode cL_acts 438 = .ok (.aload_n 1, 1) := by decide +kernel
theorem dL_acts_439 : decode cL_acts 439 = .ok (.getfield 201, 3) := by decide +kernel
theorem dL_acts_442 : decode cL_acts 442 = .ok (.istore 5, 2) := by decide +kernel
theorem dL_acts_444 : decode cL_acts 444 = .ok (.aload_n 1, 1) := by decide +kernel
theorem dL_acts_445 : decode cL_acts 445 = .ok (.iconst 1, 1) := by decide +kernel
theorem dL_acts_446 : decode cL_acts 446 = .ok (.iload_n 2, 1) := by decide +kernel
theorem dL_acts_447 : decode cL_acts 447 = .ok (.bipush 11, 2) := by decide +kernel
theorem dL_acts_449 : decode cL_acts 449 = .ok (.ishr, 1) := by decide +kernel
theorem dL_acts_450 : decode cL_acts 450 = .ok (.iconst 5, 1) := by decide +kernel
theorem dL_acts_451 : decode cL_acts 451 = .ok (.invokestatic 167, 3) := by decide +kernel
theorem dL_acts_454 : decode cL_acts 454 = .ok (.iadd, 1) := by decide +kernel
theorem dL_acts_455 : decode cL_acts 455 = .ok (.putfield 201, 3) := by decide +kernel
theorem dL_acts_458 : decode cL_acts 458 = .ok (.aload_n 0, 1) := by decide +kernel
theorem dL_acts_459 : decode cL_acts 459 = .ok (.aload_n 1, 1) := by decide +kernel
theorem dL_acts_460 : decode cL_acts 460 = .ok (.getfield 201, 3) := by decide +kernel
theorem dL_acts_463 : decode cL_acts 463 = .ok (.invokevirtual 204, 3) := by decide +kernel
theorem dL_acts_466 : decode cL_acts 466 = .ok (.iload 5, 2) := by decide +kernel
theorem dL_acts_468 : decode cL_acts 468 = .ok (.if_icmp .ne 7, 3) := by decide +kernel
theorem dL_acts_471 : decode cL_acts 471 = .ok (.iconst 1, 1) := by decide +kernel
theorem dL_acts_472 : decode cL_acts 472 = .ok (.goto 4, 3) := by decide +kernel
theorem dL_acts_475 : decode cL_acts 475 = .ok (.iconst 0, 1) := by decide +kernel
theorem dL_acts_476 : decode cL_acts 476 = .ok (.ireturn, 1) := by decide +kernel
theorem dL_acts_477 : decode cL_acts 477 = .ok (.aload_n 1, 1) := by decide +kernel
theorem dL_acts_478 : decode cL_acts 478 = .ok (.getfield 93, 3) := by decide +kernel
theorem dL_acts_481 : decode cL_acts 481 = .ok (.ifCond .ne 5, 3) := by decide +kernel
theorem dL_acts_484 : decode cL_acts 484 = .ok (.iconst 1, 1) := by decide +kernel
theorem dL_acts_485 : decode cL_acts 485 = .ok (.ireturn, 1) := by decide +kernel
theorem dL_acts_486 : decode cL_acts 486 = .ok (.aload_n 1, 1) := by decide +kernel
theorem dL_acts_487 : decode cL_acts 487 = .ok (.getfield 207, 3) := by decide +kernel
theorem dL_acts_490 : decode cL_acts 490 = .ok (.iload 4, 2) := by decide +kernel
theorem dL_acts_492 : decode cL_acts 492 = .ok (.iaload, 1) := by decide +kernel
theorem dL_acts_493 : decode cL_acts 493 = .ok (.istore 5, 2) := by decide +kernel
theorem dL_acts_495 : decode cL_acts 495 = .ok (.aload_n 1, 1) := by decide +kernel
theorem dL_acts_496 : decode cL_acts 496 = .ok (.getfield 207, 3) := by decide +kernel
theorem dL_acts_499 : decode cL_acts 499 = .ok (.iload 4, 2) := by decide +kernel
theorem dL_acts_501 : decode cL_acts 501 = .ok (.iconst 1, 1) := by decide +kernel
theorem dL_acts_502 : decode cL_acts 502 = .ok (.aload_n 1, 1) := by decide +kernel
theorem dL_acts_503 : decode cL_acts 503 = .ok (.getfield 99, 3) := by decide +kernel
theorem dL_acts_506 : decode cL_acts 506 = .ok (.iload 4, 2) := by decide +kernel
theorem dL_acts_508 : decode cL_acts 508 = .ok (.iaload, 1) := by decide +kernel
theorem dL_acts_509 : decode cL_acts 509 = .ok (.invokestatic 170, 3) := by decide +kernel
theorem dL_acts_512 : decode cL_acts 512 = .ok (.iload_n 2, 1) := by decide +kernel
theorem dL_acts_513 : decode cL_acts 513 = .ok (.bipush 11, 2) := by decide +kernel
theorem dL_acts_515 : decode cL_acts 515 = .ok (.ishr, 1) := by decide +kernel
theorem dL_acts_516 : decode cL_acts 516 = .ok (.bipush 31, 2) := by decide +kernel
theorem dL_acts_518 : decode cL_acts 518 = .ok (.invokestatic 167, 3) := by decide +kernel
theorem dL_acts_521 : decode cL_acts 521 = .ok (.invokestatic 170, 3) := by decide +kernel
theorem dL_acts_524 : decode cL_acts 524 = .ok (.iastore, 1) := by decide +kernel
theorem dL_acts_525 : decode cL_acts 525 = .ok (.aload_n 0, 1) := by decide +kernel
theorem dL_acts_526 : decode cL_acts 526 = .ok (.iload 4, 2) := by decide +kernel
theorem dL_acts_528 : decode cL_acts 528 = .ok (.aload_n 1, 1) := by decide +kernel
theorem dL_acts_529 : decode cL_acts 529 = .ok (.getfield 207, 3) := by decide +kernel
theorem dL_acts_532 : decode cL_acts 532 = .ok (.iload 4, 2) := by decide +kernel
theorem dL_acts_534 : decode cL_acts 534 = .ok (.iaload, 1) := by decide +kernel
theorem dL_acts_535 : decode cL_acts 535 = .ok (.invokevirtual 210, 3) := by decide +kernel
theorem dL_acts_538 : decode cL_acts 538 = .ok (.iload 5, 2) := by decide +kernel
theorem dL_acts_540 : decode cL_acts 540 = .ok (.if_icmp .ne 7, 3) := by decide +kernel
theorem dL_acts_543 : decode cL_acts 543 = .ok (.iconst 1, 1) := by decide +kernel
theorem dL_acts_544 : decode cL_acts 544 = .ok (.goto 4, 3) := by decide +kernel
theorem dL_acts_547 : decode cL_acts 547 = .ok (.iconst 0, 1) := by decide +kernel
theorem dL_acts_548 : decode cL_acts 548 = .ok (.ireturn, 1) := by decide +kernel
theorem dL_acts_549 : decode cL_acts 549 = .ok (.aload_n 1, 1) := by decide +kernel
theorem dL_acts_550 : decode cL_acts 550 = .ok (.getfield 93, 3) := by decide +kernel
theorem dL_acts_553 : decode cL_acts 553 = .ok (.ifCond .eq 13, 3) := by decide +kernel
theorem dL_acts_556 : decode cL_acts 556 = .ok (.aload_n 0, 1) := by decide +kernel
theorem dL_acts_557 : decode cL_acts 557 = .ok (.aload_n 1, 1) := by decide +kernel
theorem dL_acts_558 : decode cL_acts 558 = .ok (.iload 4, 2) := by decide +kernel
theorem dL_acts_560 : decode cL_acts 560 = .ok (.invokestatic 213, 3) := by decide +kernel
theorem dL_acts_563 : decode cL_acts 563 = .ok (.ifCond .eq 7, 3) := by decide +kernel
theorem dL_acts_566 : decode cL_acts 566 = .ok (.iconst 1, 1) := by decide +kernel
theorem dL_acts_567 : decode cL_acts 567 = .ok (.goto 4, 3) := by decide +kernel
theorem dL_acts_570 : decode cL_acts 570 = .ok (.iconst 0, 1) := by decide +kernel
theorem dL_acts_571 : decode cL_acts 571 = .ok (.ireturn, 1) := by decide +kernel
theorem dL_law_0 : decode cL_law 0 = .ok (.new 10, 3) := by decide +kernel
theorem dL_law_3 : decode cL_law 3 = .ok (.dup, 1) := by decide +kernel
theorem dL_law_4 : decode cL_law 4 = .ok (.invokespecial 216, 3) := by decide +kernel
theorem dL_law_7 : decode cL_law 7 = .ok (.astore_n 1, 1) := by decide +kernel
theorem dL_law_8 : decode cL_law 8 = .ok (.new 21, 3) := by decide +kernel
theorem dL_law_11 : decode cL_law 11 = .ok (.dup, 1) := by decide +kernel
theorem dL_law_12 : decode cL_law 12 = .ok (.iconst 4, 1) := by decide +kernel
theorem dL_law_13 : decode cL_law 13 = .ok (.aload_n 0, 1) := by decide +kernel
theorem dL_law_14 : decode cL_law 14 = .ok (.iconst 0, 1) := by decide +kernel
theorem dL_law_15 : decode cL_law 15 = .ok (.invokestatic 217, 3) := by decide +kernel
theorem dL_law_18 : decode cL_law 18 = .ok (.bipush 17, 2) := by decide +kernel
theorem dL_law_20 : decode cL_law 20 = .ok (.invokestatic 167, 3) := by decide +kernel
theorem dL_law_23 : decode cL_law 23 = .ok (.iadd, 1) := by decide +kernel
theorem dL_law_24 : decode cL_law 24 = .ok (.invokespecial 221, 3) := by decide +kernel
theorem dL_law_27 : decode cL_law 27 = .ok (.astore_n 2, 1) := by decide +kernel
theorem dL_law_28 : decode cL_law 28 = .ok (.aload_n 1, 1) := by decide +kernel
theorem dL_law_29 : decode cL_law 29 = .ok (.aload_n 2, 1) := by decide +kernel
theorem dL_law_30 : decode cL_law 30 = .ok (.getfield 78, 3) := by decide +kernel
theorem dL_law_33 : decode cL_law 33 = .ok (.invokevirtual 224, 3) := by decide +kernel
theorem dL_law_36 : decode cL_law 36 = .ok (.bipush 12, 2) := by decide +kernel
theorem dL_law_38 : decode cL_law 38 = .ok (.if_icmp .ne 7, 3) := by decide +kernel
theorem dL_law_41 : decode cL_law 41 = .ok (.iconst 1, 1) := by decide +kernel
theorem dL_law_42 : decode cL_law 42 = .ok (.goto 4, 3) := by decide +kernel
theorem dL_law_45 : decode cL_law 45 = .ok (.iconst 0, 1) := by decide +kernel
theorem dL_law_46 : decode cL_law 46 = .ok (.istore_n 3, 1) := by decide +kernel
theorem dL_law_47 : decode cL_law 47 = .ok (.iconst 1, 1) := by decide +kernel
theorem dL_law_48 : decode cL_law 48 = .ok (.istore 4, 2) := by decide +kernel
theorem dL_law_50 : decode cL_law 50 = .ok (.iload 4, 2) := by decide +kernel
theorem dL_law_52 : decode cL_law 52 = .ok (.aload_n 2, 1) := by decide +kernel
theorem dL_law_53 : decode cL_law 53 = .ok (.getfield 78, 3) := by decide +kernel
theorem dL_law_56 : decode cL_law 56 = .ok (.iconst 1, 1) := by decide +kernel
theorem dL_law_57 : decode cL_law 57 = .ok (.isub, 1) := by decide +kernel
theorem dL_law_58 : decode cL_law 58 = .ok (.if_icmp .ge 113, 3) := by decide +kernel
theorem dL_law_61 : decode cL_law 61 = .ok (.aload_n 2, 1) := by decide +kernel
theorem dL_law_62 : decode cL_law 62 = .ok (.getfield 93, 3) := by decide +kernel
theorem dL_law_65 : decode cL_law 65 = .ok (.bipush 6, 2) := by decide +kernel
theorem dL_law_67 : decode cL_law 67 = .ok (.if_icmp .ge 104, 3) := by decide +kernel
theorem dL_law_70 : decode cL_law 70 = .ok (.iload_n 3, 1) := by decide +kernel
theorem dL_law_71 : decode cL_law 71 = .ok (.ifCond .eq 100, 3) := by decide +kernel
theorem dL_law_74 : decode cL_law 74 = .ok (.aload_n 0, 1) := by decide +kernel
theorem dL_law_75 : decode cL_law 75 = .ok (.iconst 1, 1) := by decide +kernel
theorem dL_law_76 : decode cL_law 76 = .ok (.invokestatic 217, 3) := by decide +kernel
theorem dL_law_79 : decode cL_law 79 = .ok (.iload 4, 2) := by decide +kernel
theorem dL_law_81 : decode cL_law 81 = .ok (.ishr, 1) := by decide +kernel
theorem dL_law_82 : decode cL_law 82 = .ok (.iconst 3, 1) := by decide +kernel
theorem dL_law_83 : decode cL_law 83 = .ok (.invokestatic 167, 3) := by decide +kernel
theorem dL_law_86 : decode cL_law 86 = .ok (.ifCond .le 79, 3) := by decide +kernel
theorem dL_law_89 : decode cL_law 89 = .ok (.aload_n 2, 1) := by decide +kernel
theorem dL_law_90 : decode cL_law 90 = .ok (.getfield 207, 3) := by decide +kernel
theorem dL_law_93 : decode cL_law 93 = .ok (.aload_n 2, 1) := by decide +kernel
theorem dL_law_94 : decode cL_law 94 = .ok (.getfield 93, 3) := by decide +kernel
theorem dL_law_97 : decode cL_law 97 = .ok (.iconst 1, 1) := by decide +kernel
theorem dL_law_98 : decode cL_law 98 = .ok (.aload_n 0, 1) := by decide +kernel
theorem dL_law_99 : decode cL_law 99 = .ok (.iconst 2, 1) := by decide +kernel
theorem dL_law_100 : decode cL_law 100 = .ok (.invokestatic 217, 3) := by decide +kernel
theorem dL_law_103 : decode cL_law 103 = .ok (.iconst 3, 1) := by decide +kernel
theorem dL_law_104 : decode cL_law 104 = .ok (.aload_n 2, 1) := by decide +kernel
theorem dL_law_105 : decode cL_law 105 = .ok (.getfield 93, 3) := by decide +kernel
theorem dL_law_108 : decode cL_law 108 = .ok (.imul, 1) := by decide +kernel
theorem dL_law_109 : decode cL_law 109 = .ok (.ishr, 1) := by decide +kernel
theorem dL_law_110 : decode cL_law 110 = .ok (.iconst 5, 1) := by decide +kernel
theorem dL_law_111 : decode cL_law 111 = .ok (.invokestatic 167, 3) := by decide +kernel
theorem dL_law_114 : decode cL_law 114 = .ok (.iadd, 1) := by decide +kernel
theorem dL_law_115 : decode cL_law 115 = .ok (.iastore, 1) := by decide +kernel
theorem dL_law_116 : decode cL_law 116 = .ok (.aload_n 2, 1) := by decide +kernel
theorem dL_law_117 : decode cL_law 117 = .ok (.getfield 131, 3) := by decide +kernel
theorem dL_law_120 : decode cL_law 120 = .ok (.iload 4, 2) := by decide +kernel
theorem dL_law_122 : decode cL_law 122 = .ok (.aload_n 2, 1) := by decide +kernel
theorem dL_law_123 : decode cL_law 123 = .ok (.getfield 93, 3) := by decide +kernel
theorem dL_law_126 : decode cL_law 126 = .ok (.iastore, 1) := by decide +kernel
theorem dL_law_127 : decode cL_law 127 = .ok (.aload_n 1, 1) := by decide +kernel
theorem dL_law_128 : decode cL_law 128 = .ok (.iload 4, 2) := by decide +kernel
theorem dL_law_130 : decode cL_law 130 = .ok (.aload_n 2, 1) := by decide +kernel
theorem dL_law_131 : decode cL_law 131 = .ok (.getfield 207, 3) := by decide +kernel
theorem dL_law_134 : decode cL_law 134 = .ok (.aload_n 2, 1) := by decide +kernel
theorem dL_law_135 : decode cL_law 135 = .ok (.getfield 93, 3) := by decide +kernel
theorem dL_law_138 : decode cL_law 138 = .ok (.iaload, 1) := by decide +kernel
theorem dL_law_139 : decode cL_law 139 = .ok (.invokevirtual 227, 3) := by decide +kernel
theorem dL_law_142 : decode cL_law 142 = .ok (.aload_n 2, 1) := by decide +kernel
theorem dL_law_143 : decode cL_law 143 = .ok (.getfield 93, 3) := by decide +kernel
theorem dL_law_146 : decode cL_law 146 = .ok (.if_icmp .ne 7, 3) := by decide +kernel
theorem dL_law_149 : decode cL_law 149 = .ok (.iconst 1, 1) := by decide +kernel
theorem dL_law_150 : decode cL_law 150 = .ok (.goto 4, 3) := by decide +kernel
theorem dL_law_153 : decode cL_law 153 = .ok (.iconst 0, 1) := by decide +kernel
theorem dL_law_154 : decode cL_law 154 = .ok (.istore_n 3, 1) := by decide +kernel
theorem dL_law_155 : decode cL_law 155 = .ok (.aload_n 2, 1) := by decide +kernel
theorem dL_law_156 : decode cL_law 156 = .ok (.dup, 1) := by decide +kernel
theorem dL_law_157 : decode cL_law 157 = .ok (.getfield 93, 3) := by decide +kernel
theorem dL_law_160 : decode cL_law 160 = .ok (.iconst 1, 1) := by decide +kernel
theorem dL_law_161 : decode cL_law 161 = .ok (.iadd, 1) := by decide +kernel
theorem dL_law_162 : decode cL_law 162 = .ok (.putfield 93, 3) := by decide +kernel
theorem dL_law_165 : decode cL_law 165 = .ok (.iinc 4 1, 3) := by decide +kernel
theorem dL_law_168 : decode cL_law 168 = .ok (.goto (-118), 3) := by decide +kernel
theorem dL_law_171 : decode cL_law 171 = .ok (.iconst 0, 1) := by decide +kernel
theorem dL_law_172 : decode cL_law 172 = .ok (.istore 4, 2) := by decide +kernel
theorem dL_law_174 : decode cL_law 174 = .ok (.iload 4, 2) := by decide +kernel
theorem dL_law_176 : decode cL_law 176 = .ok (.bipush 8, 2) := by decide +kernel
theorem dL_law_178 : decode cL_law 178 = .ok (.if_icmp .ge 67, 3) := by decide +kernel
theorem dL_law_181 : decode cL_law 181 = .ok (.aload_n 2, 1) := by decide +kernel
theorem dL_law_182 : decode cL_law 182 = .ok (.getfield 93, 3) := by decide +kernel
theorem dL_law_185 : decode cL_law 185 = .ok (.ifCond .le 60, 3) := by decide +kernel
theorem dL_law_188 : decode cL_law 188 = .ok (.iload_n 3, 1) := by decide +kernel
theorem dL_law_189 : decode cL_law 189 = .ok (.ifCond .eq 56, 3) := by decide +kernel
theorem dL_law_192 : decode cL_law 192 = .ok (.aload_n 2, 1) := by decide +kernel
theorem dL_law_193 : decode cL_law 193 = .ok (.getfield 115, 3) := by decide +kernel
theorem dL_law_196 : decode cL_law 196 = .ok (.iload 4, 2) := by decide +kernel
theorem dL_law_198 : decode cL_law 198 = .ok (.aload_n 0, 1) := by decide +kernel
theorem dL_law_199 : decode cL_law 199 = .ok (.iconst 3, 1) := by decide +kernel
theorem dL_law_200 : decode cL_law 200 = .ok (.invokestatic 217, 3) := by decide +kernel
theorem dL_law_203 : decode cL_law 203 = .ok (.iconst 2, 1) := by decide +kernel
theorem dL_law_204 : decode cL_law 204 = .ok (.iload 4, 2) := by decide +kernel
theorem dL_law_206 : decode cL_law 206 = .ok (.imul, 1) := by decide +kernel
theorem dL_law_207 : decode cL_law 207 = .ok (.ishr, 1) := by decide +kernel
theorem dL_law_208 : decode cL_law 208 = .ok (.aload_n 2, 1) := by decide +kernel
theorem dL_law_209 : decode cL_law 209 = .ok (.getfield 93, 3) := by decide +kernel
theorem dL_law_212 : decode cL_law 212 = .ok (.invokestatic 167, 3) := by decide +kernel
theorem dL_law_215 : decode cL_law 215 = .ok (.iastore, 1) := by decide +kernel
theorem dL_law_216 : decode cL_law 216 = .ok (.aload_n 1, 1) := by decide +kernel
theorem dL_law_217 : decode cL_law 217 = .ok (.iload 4, 2) := by decide +kernel
theorem dL_law_219 : decode cL_law 219 = .ok (.aload_n 2, 1) := by decide +kernel
theorem dL_law_220 : decode cL_law 220 = .ok (.getfield 115, 3) := by decide +kernel
theorem dL_law_223 : decode cL_law 223 = .ok (.iload 4, 2) := by decide +kernel
theorem dL_law_225 : decode cL_law 225 = .ok (.iaload, 1) := by decide +kernel
theorem dL_law_226 : decode cL_law 226 = .ok (.invokevirtual 195, 3) := by decide +kernel
theorem dL_law_229 : decode cL_law 229 = .ok (.iconst (-1), 1) := by decide +kernel
theorem dL_law_230 : decode cL_law 230 = .ok (.if_icmp .ne 7, 3) := by decide +kernel
theorem dL_law_233 : decode cL_law 233 = .ok (.iconst 1, 1) := by decide +kernel
theorem dL_law_234 : decode cL_law 234 = .ok (.goto 4, 3) := by decide +kernel
theorem dL_law_237 : decode cL_law 237 = .ok (.iconst 0, 1) := by decide +kernel
theorem dL_law_238 : decode cL_law 238 = .ok (.istore_n 3, 1) := by decide +kernel
theorem dL_law_239 : decode cL_law 239 = .ok (.iinc 4 1, 3) := by decide +kernel
theorem dL_law_242 : decode cL_law 242 = .ok (.goto (-68), 3) := by decide +kernel
theorem dL_law_245 : decode cL_law 245 = .ok (.iconst 0, 1) := by decide +kernel
theorem dL_law_246 : decode cL_law 246 = .ok (.istore 4, 2) := by decide +kernel
theorem dL_law_248 : decode cL_law 248 = .ok (.iload 4, 2) := by decide +kernel
theorem dL_law_250 : decode cL_law 250 = .ok (.bipush 24, 2) := by decide +kernel
theorem dL_law_252 : decode cL_law 252 = .ok (.if_icmp .ge 43, 3) := by decide +kernel
theorem dL_law_255 : decode cL_law 255 = .ok (.iload_n 3, 1) := by decide +kernel
theorem dL_law_256 : decode cL_law 256 = .ok (.ifCond .eq 39, 3) := by decide +kernel
theorem dL_law_259 : decode cL_law 259 = .ok (.aload_n 1, 1) := by decide +kernel
theorem dL_law_260 : decode cL_law 260 = .ok (.aload_n 2, 1) := by decide +kernel
theorem dL_law_261 : decode cL_law 261 = .ok (.aload_n 0, 1) := by decide +kernel
theorem dL_law_262 : decode cL_law 262 = .ok (.iconst 4, 1) := by decide +kernel
theorem dL_law_263 : decode cL_law 263 = .ok (.iload 4, 2) := by decide +kernel
theorem dL_law_265 : decode cL_law 265 = .ok (.iadd, 1) := by decide +kernel
theorem dL_law_266 : decode cL_law 266 = .ok (.invokestatic 217, 3) := by decide +kernel
theorem dL_law_269 : decode cL_law 269 = .ok (.invokestatic 230, 3) := by decide +kernel
theorem dL_law_272 : decode cL_law 272 = .ok (.ifCond .eq 15, 3) := by decide +kernel
theorem dL_law_275 : decode cL_law 275 = .ok (.aload_n 1, 1) := by decide +kernel
theorem dL_law_276 : decode cL_law 276 = .ok (.aload_n 2, 1) := by decide +kernel
theorem dL_law_277 : decode cL_law 277 = .ok (.invokestatic 233, 3) := by decide +kernel
theorem dL_law_280 : decode cL_law 280 = .ok (.ifCond .eq 7, 3) := by decide +kernel
theorem dL_law_283 : decode cL_law 283 = .ok (.iconst 1, 1) := by decide +kernel
theorem dL_law_284 : decode cL_law 284 = .ok (.goto 4, 3) := by decide +kernel
theorem dL_law_287 : decode cL_law 287 = .ok (.iconst 0, 1) := by decide +kernel
theorem dL_law_288 : decode cL_law 288 = .ok (.istore_n 3, 1) := by decide +kernel
theorem dL_law_289 : decode cL_law 289 = .ok (.iinc 4 1, 3) := by decide +kernel
theorem dL_law_292 : decode cL_law 292 = .ok (.goto (-44), 3) := by decide +kernel
theorem dL_law_295 : decode cL_law 295 = .ok (.iload_n 3, 1) := by decide +kernel
theorem dL_law_296 : decode cL_law 296 = .ok (.ifCond .eq 14, 3) := by decide +kernel
theorem dL_law_299 : decode cL_law 299 = .ok (.aload_n 1, 1) := by decide +kernel
theorem dL_law_300 : decode cL_law 300 = .ok (.invokevirtual 237, 3) := by decide +kernel
theorem dL_law_303 : decode cL_law 303 = .ok (.ifCond .eq 7, 3) := by decide +kernel
theorem dL_law_306 : decode cL_law 306 = .ok (.iconst 1, 1) := by decide +kernel
theorem dL_law_307 : decode cL_law 307 = .ok (.goto 4, 3) := by decide +kernel
theorem dL_law_310 : decode cL_law 310 = .ok (.iconst 0, 1) := by decide +kernel
theorem dL_law_311 : decode cL_law 311 = .ok (.ireturn, 1) := by decide +kernel
