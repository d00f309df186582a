theorem d_M_stored_0 : decode prog_10_method_46_code 0 = .ok (.iload_n 1, 1) := by decide +kernel
theorem d_M_stored_1 : decode prog_10_method_46_code 1 = .ok (.ifCond .lt 11, 3) := by decide +kernel
theorem d_M_stored_4 : decode prog_10_method_46_code 4 = .ok (.iload_n 1, 1) := by decide +kernel
theorem d_M_stored_5 : decode prog_10_method_46_code 5 = .ok (.aload_n 0, 1) := by decide +kernel
theorem d_M_stored_6 : decode prog_10_method_46_code 6 = .ok (.getfield 142, 3) := by decide +kernel
theorem d_M_stored_9 : decode prog_10_method_46_code 9 = .ok (.if_icmp .lt 5, 3) := by decide +kernel
theorem d_M_stored_12 : decode prog_10_method_46_code 12 = .ok (.iconst (-1), 1) := by decide +kernel
theorem d_M_stored_13 : decode prog_10_method_46_code 13 = .ok (.ireturn, 1) := by decide +kernel
theorem d_M_stored_14 : decode prog_10_method_46_code 14 = .ok (.iload_n 2, 1) := by decide +kernel
theorem d_M_stored_15 : decode prog_10_method_46_code 15 = .ok (.ifCond .ne 12, 3) := by decide +kernel
theorem d_M_stored_18 : decode prog_10_method_46_code 18 = .ok (.aload_n 0, 1) := by decide +kernel
theorem d_M_stored_19 : decode prog_10_method_46_code 19 = .ok (.getfield 59, 3) := by decide +kernel
theorem d_M_stored_22 : decode prog_10_method_46_code 22 = .ok (.iload_n 1, 1) := by decide +kernel
theorem d_M_stored_23 : decode prog_10_method_46_code 23 = .ok (.saload, 1) := by decide +kernel
theorem d_M_stored_24 : decode prog_10_method_46_code 24 = .ok (.iconst 1, 1) := by decide +kernel
theorem d_M_stored_25 : decode prog_10_method_46_code 25 = .ok (.isub, 1) := by decide +kernel
theorem d_M_stored_26 : decode prog_10_method_46_code 26 = .ok (.ireturn, 1) := by decide +kernel
theorem d_M_stored_27 : decode prog_10_method_46_code 27 = .ok (.iload_n 2, 1) := by decide +kernel
theorem d_M_stored_28 : decode prog_10_method_46_code 28 = .ok (.iconst 1, 1) := by decide +kernel
theorem d_M_stored_29 : decode prog_10_method_46_code 29 = .ok (.if_icmp .ne 12, 3) := by decide +kernel
theorem d_M_stored_32 : decode prog_10_method_46_code 32 = .ok (.aload_n 0, 1) := by decide +kernel
theorem d_M_stored_33 : decode prog_10_method_46_code 33 = .ok (.getfield 62, 3) := by decide +kernel
theorem d_M_stored_36 : decode prog_10_method_46_code 36 = .ok (.iload_n 1, 1) := by decide +kernel
theorem d_M_stored_37 : decode prog_10_method_46_code 37 = .ok (.baload, 1) := by decide +kernel
theorem d_M_stored_38 : decode prog_10_method_46_code 38 = .ok (.goto 31, 3) := by decide +kernel
theorem d_M_stored_41 : decode prog_10_method_46_code 41 = .ok (.iload_n 2, 1) := by decide +kernel
theorem d_M_stored_42 : decode prog_10_method_46_code 42 = .ok (.iconst 2, 1) := by decide +kernel
theorem d_M_stored_43 : decode prog_10_method_46_code 43 = .ok (.if_icmp .ne 11, 3) := by decide +kernel
theorem d_M_stored_46 : decode prog_10_method_46_code 46 = .ok (.aload_n 0, 1) := by decide +kernel
theorem d_M_stored_47 : decode prog_10_method_46_code 47 = .ok (.iload_n 1, 1) := by decide +kernel
theorem d_M_stored_48 : decode prog_10_method_46_code 48 = .ok (.invokevirtual 170, 3) := by decide +kernel
theorem d_M_stored_51 : decode prog_10_method_46_code 51 = .ok (.goto 18, 3) := by decide +kernel
theorem d_M_stored_54 : decode prog_10_method_46_code 54 = .ok (.iload_n 2, 1) := by decide +kernel
theorem d_M_stored_55 : decode prog_10_method_46_code 55 = .ok (.iconst 3, 1) := by decide +kernel
theorem d_M_stored_56 : decode prog_10_method_46_code 56 = .ok (.if_icmp .ne 12, 3) := by decide +kernel
theorem d_M_stored_59 : decode prog_10_method_46_code 59 = .ok (.aload_n 0, 1) := by decide +kernel
theorem d_M_stored_60 : decode prog_10_method_46_code 60 = .ok (.getfield 56, 3) := by decide +kernel
theorem d_M_stored_63 : decode prog_10_method_46_code 63 = .ok (.iload_n 1, 1) := by decide +kernel
theorem d_M_stored_64 : decode prog_10_method_46_code 64 = .ok (.baload, 1) := by decide +kernel
theorem d_M_stored_65 : decode prog_10_method_46_code 65 = .ok (.goto 4, 3) := by decide +kernel
theorem d_M_stored_68 : decode prog_10_method_46_code 68 = .ok (.iconst (-1), 1) := by decide +kernel
theorem d_M_stored_69 : decode prog_10_method_46_code 69 = .ok (.ireturn, 1) := by decide +kernel

theorem d_M_store_0 : decode prog_10_method_28_code 0 = .ok (.aload_n 0, 1) := by decide +kernel
theorem d_M_store_1 : decode prog_10_method_28_code 1 = .ok (.getfield 50, 3) := by decide +kernel
theorem d_M_store_4 : decode prog_10_method_28_code 4 = .ok (.iload_n 1, 1) := by decide +kernel
theorem d_M_store_5 : decode prog_10_method_28_code 5 = .ok (.iconst 0, 1) := by decide +kernel
theorem d_M_store_6 : decode prog_10_method_28_code 6 = .ok (.sastore, 1) := by decide +kernel
theorem d_M_store_7 : decode prog_10_method_28_code 7 = .ok (.aload_n 0, 1) := by decide +kernel
theorem d_M_store_8 : decode prog_10_method_28_code 8 = .ok (.getfield 25, 3) := by decide +kernel
theorem d_M_store_11 : decode prog_10_method_28_code 11 = .ok (.iload_n 1, 1) := by decide +kernel
theorem d_M_store_12 : decode prog_10_method_28_code 12 = .ok (.baload, 1) := by decide +kernel
theorem d_M_store_13 : decode prog_10_method_28_code 13 = .ok (.ifCond .ne 4, 3) := by decide +kernel
theorem d_M_store_16 : decode prog_10_method_28_code 16 = .ok (.return_, 1) := by decide +kernel
theorem d_M_store_17 : decode prog_10_method_28_code 17 = .ok (.iconst 0, 1) := by decide +kernel
theorem d_M_store_18 : decode prog_10_method_28_code 18 = .ok (.istore_n 2, 1) := by decide +kernel
theorem d_M_store_19 : decode prog_10_method_28_code 19 = .ok (.iload_n 2, 1) := by decide +kernel
theorem d_M_store_20 : decode prog_10_method_28_code 20 = .ok (.aload_n 0, 1) := by decide +kernel
theorem d_M_store_21 : decode prog_10_method_28_code 21 = .ok (.getfield 142, 3) := by decide +kernel
theorem d_M_store_24 : decode prog_10_method_28_code 24 = .ok (.if_icmp .ge 51, 3) := by decide +kernel
theorem d_M_store_27 : decode prog_10_method_28_code 27 = .ok (.aload_n 0, 1) := by decide +kernel
theorem d_M_store_28 : decode prog_10_method_28_code 28 = .ok (.getfield 56, 3) := by decide +kernel
theorem d_M_store_31 : decode prog_10_method_28_code 31 = .ok (.iload_n 2, 1) := by decide +kernel
theorem d_M_store_32 : decode prog_10_method_28_code 32 = .ok (.baload, 1) := by decide +kernel
theorem d_M_store_33 : decode prog_10_method_28_code 33 = .ok (.aload_n 0, 1) := by decide +kernel
theorem d_M_store_34 : decode prog_10_method_28_code 34 = .ok (.getfield 25, 3) := by decide +kernel
theorem d_M_store_37 : decode prog_10_method_28_code 37 = .ok (.iload_n 1, 1) := by decide +kernel
theorem d_M_store_38 : decode prog_10_method_28_code 38 = .ok (.baload, 1) := by decide +kernel
theorem d_M_store_39 : decode prog_10_method_28_code 39 = .ok (.if_icmp .ne 30, 3) := by decide +kernel
theorem d_M_store_42 : decode prog_10_method_28_code 42 = .ok (.aload_n 0, 1) := by decide +kernel
theorem d_M_store_43 : decode prog_10_method_28_code 43 = .ok (.getfield 53, 3) := by decide +kernel
theorem d_M_store_46 : decode prog_10_method_28_code 46 = .ok (.iload_n 2, 1) := by decide +kernel
theorem d_M_store_47 : decode prog_10_method_28_code 47 = .ok (.laload, 1) := by decide +kernel
theorem d_M_store_48 : decode prog_10_method_28_code 48 = .ok (.aload_n 0, 1) := by decide +kernel
theorem d_M_store_49 : decode prog_10_method_28_code 49 = .ok (.getfield 31, 3) := by decide +kernel
theorem d_M_store_52 : decode prog_10_method_28_code 52 = .ok (.iload_n 1, 1) := by decide +kernel
theorem d_M_store_53 : decode prog_10_method_28_code 53 = .ok (.laload, 1) := by decide +kernel
theorem d_M_store_54 : decode prog_10_method_28_code 54 = .ok (.lcmp, 1) := by decide +kernel
theorem d_M_store_55 : decode prog_10_method_28_code 55 = .ok (.ifCond .ne 14, 3) := by decide +kernel
theorem d_M_store_58 : decode prog_10_method_28_code 58 = .ok (.aload_n 0, 1) := by decide +kernel
theorem d_M_store_59 : decode prog_10_method_28_code 59 = .ok (.getfield 50, 3) := by decide +kernel
theorem d_M_store_62 : decode prog_10_method_28_code 62 = .ok (.iload_n 1, 1) := by decide +kernel
theorem d_M_store_63 : decode prog_10_method_28_code 63 = .ok (.iload_n 2, 1) := by decide +kernel
theorem d_M_store_64 : decode prog_10_method_28_code 64 = .ok (.iconst 1, 1) := by decide +kernel
theorem d_M_store_65 : decode prog_10_method_28_code 65 = .ok (.iadd, 1) := by decide +kernel
theorem d_M_store_66 : decode prog_10_method_28_code 66 = .ok (.i2s, 1) := by decide +kernel
theorem d_M_store_67 : decode prog_10_method_28_code 67 = .ok (.sastore, 1) := by decide +kernel
theorem d_M_store_68 : decode prog_10_method_28_code 68 = .ok (.return_, 1) := by decide +kernel
theorem d_M_store_69 : decode prog_10_method_28_code 69 = .ok (.iinc 2 1, 3) := by decide +kernel
theorem d_M_store_72 : decode prog_10_method_28_code 72 = .ok (.goto (-53), 3) := by decide +kernel
theorem d_M_store_75 : decode prog_10_method_28_code 75 = .ok (.aload_n 0, 1) := by decide +kernel
theorem d_M_store_76 : decode prog_10_method_28_code 76 = .ok (.getfield 38, 3) := by decide +kernel
theorem d_M_store_79 : decode prog_10_method_28_code 79 = .ok (.iload_n 1, 1) := by decide +kernel
theorem d_M_store_80 : decode prog_10_method_28_code 80 = .ok (.saload, 1) := by decide +kernel
theorem d_M_store_81 : decode prog_10_method_28_code 81 = .ok (.istore_n 2, 1) := by decide +kernel
theorem d_M_store_82 : decode prog_10_method_28_code 82 = .ok (.iload_n 2, 1) := by decide +kernel
theorem d_M_store_83 : decode prog_10_method_28_code 83 = .ok (.iload_n 2, 1) := by decide +kernel
theorem d_M_store_84 : decode prog_10_method_28_code 84 = .ok (.iload_n 2, 1) := by decide +kernel
theorem d_M_store_85 : decode prog_10_method_28_code 85 = .ok (.iconst 1, 1) := by decide +kernel
theorem d_M_store_86 : decode prog_10_method_28_code 86 = .ok (.isub, 1) := by decide +kernel
theorem d_M_store_87 : decode prog_10_method_28_code 87 = .ok (.iand, 1) := by decide +kernel
theorem d_M_store_88 : decode prog_10_method_28_code 88 = .ok (.isub, 1) := by decide +kernel
theorem d_M_store_89 : decode prog_10_method_28_code 89 = .ok (.istore_n 3, 1) := by decide +kernel
theorem d_M_store_90 : decode prog_10_method_28_code 90 = .ok (.iload_n 1, 1) := by decide +kernel
theorem d_M_store_91 : decode prog_10_method_28_code 91 = .ok (.istore 4, 2) := by decide +kernel
theorem d_M_store_93 : decode prog_10_method_28_code 93 = .ok (.iconst 0, 1) := by decide +kernel
theorem d_M_store_94 : decode prog_10_method_28_code 94 = .ok (.istore 5, 2) := by decide +kernel
theorem d_M_store_96 : decode prog_10_method_28_code 96 = .ok (.iload 5, 2) := by decide +kernel
theorem d_M_store_98 : decode prog_10_method_28_code 98 = .ok (.iload_n 3, 1) := by decide +kernel
theorem d_M_store_99 : decode prog_10_method_28_code 99 = .ok (.if_icmp .ge 18, 3) := by decide +kernel
theorem d_M_store_102 : decode prog_10_method_28_code 102 = .ok (.aload_n 0, 1) := by decide +kernel
theorem d_M_store_103 : decode prog_10_method_28_code 103 = .ok (.getfield 44, 3) := by decide +kernel
theorem d_M_store_106 : decode prog_10_method_28_code 106 = .ok (.iload 4, 2) := by decide +kernel
theorem d_M_store_108 : decode prog_10_method_28_code 108 = .ok (.saload, 1) := by decide +kernel
theorem d_M_store_109 : decode prog_10_method_28_code 109 = .ok (.istore 4, 2) := by decide +kernel
theorem d_M_store_111 : decode prog_10_method_28_code 111 = .ok (.iinc 5 1, 3) := by decide +kernel
theorem d_M_store_114 : decode prog_10_method_28_code 114 = .ok (.goto (-18), 3) := by decide +kernel
theorem d_M_store_117 : decode prog_10_method_28_code 117 = .ok (.aload_n 0, 1) := by decide +kernel
theorem d_M_store_118 : decode prog_10_method_28_code 118 = .ok (.getfield 21, 3) := by decide +kernel
theorem d_M_store_121 : decode prog_10_method_28_code 121 = .ok (.iload 4, 2) := by decide +kernel
theorem d_M_store_123 : decode prog_10_method_28_code 123 = .ok (.baload, 1) := by decide +kernel
theorem d_M_store_124 : decode prog_10_method_28_code 124 = .ok (.iconst 2, 1) := by decide +kernel
theorem d_M_store_125 : decode prog_10_method_28_code 125 = .ok (.if_icmp .ne 17, 3) := by decide +kernel
theorem d_M_store_128 : decode prog_10_method_28_code 128 = .ok (.iload_n 2, 1) := by decide +kernel
theorem d_M_store_129 : decode prog_10_method_28_code 129 = .ok (.ifCond .le 13, 3) := by decide +kernel
theorem d_M_store_132 : decode prog_10_method_28_code 132 = .ok (.aload_n 0, 1) := by decide +kernel
theorem d_M_store_133 : decode prog_10_method_28_code 133 = .ok (.getfield 50, 3) := by decide +kernel
theorem d_M_store_136 : decode prog_10_method_28_code 136 = .ok (.iload 4, 2) := by decide +kernel
theorem d_M_store_138 : decode prog_10_method_28_code 138 = .ok (.saload, 1) := by decide +kernel
theorem d_M_store_139 : decode prog_10_method_28_code 139 = .ok (.goto 4, 3) := by decide +kernel
theorem d_M_store_142 : decode prog_10_method_28_code 142 = .ok (.iconst 0, 1) := by decide +kernel
theorem d_M_store_143 : decode prog_10_method_28_code 143 = .ok (.istore 5, 2) := by decide +kernel
theorem d_M_store_145 : decode prog_10_method_28_code 145 = .ok (.iload 5, 2) := by decide +kernel
theorem d_M_store_147 : decode prog_10_method_28_code 147 = .ok (.ifCond .le 23, 3) := by decide +kernel
theorem d_M_store_150 : decode prog_10_method_28_code 150 = .ok (.aload_n 0, 1) := by decide +kernel
theorem d_M_store_151 : decode prog_10_method_28_code 151 = .ok (.getfield 62, 3) := by decide +kernel
theorem d_M_store_154 : decode prog_10_method_28_code 154 = .ok (.iload 5, 2) := by decide +kernel
theorem d_M_store_156 : decode prog_10_method_28_code 156 = .ok (.iconst 1, 1) := by decide +kernel
theorem d_M_store_157 : decode prog_10_method_28_code 157 = .ok (.isub, 1) := by decide +kernel
theorem d_M_store_158 : decode prog_10_method_28_code 158 = .ok (.baload, 1) := by decide +kernel
theorem d_M_store_159 : decode prog_10_method_28_code 159 = .ok (.iload_n 2, 1) := by decide +kernel
theorem d_M_store_160 : decode prog_10_method_28_code 160 = .ok (.invokestatic 145, 3) := by decide +kernel
theorem d_M_store_163 : decode prog_10_method_28_code 163 = .ok (.if_icmp .ge 7, 3) := by decide +kernel
theorem d_M_store_166 : decode prog_10_method_28_code 166 = .ok (.iconst 1, 1) := by decide +kernel
theorem d_M_store_167 : decode prog_10_method_28_code 167 = .ok (.goto 4, 3) := by decide +kernel
theorem d_M_store_170 : decode prog_10_method_28_code 170 = .ok (.iconst 0, 1) := by decide +kernel
theorem d_M_store_171 : decode prog_10_method_28_code 171 = .ok (.istore 6, 2) := by decide +kernel
theorem d_M_store_173 : decode prog_10_method_28_code 173 = .ok (.aload_n 0, 1) := by decide +kernel
theorem d_M_store_174 : decode prog_10_method_28_code 174 = .ok (.getfield 53, 3) := by decide +kernel
theorem d_M_store_177 : decode prog_10_method_28_code 177 = .ok (.aload_n 0, 1) := by decide +kernel
theorem d_M_store_178 : decode prog_10_method_28_code 178 = .ok (.getfield 142, 3) := by decide +kernel
theorem d_M_store_181 : decode prog_10_method_28_code 181 = .ok (.aload_n 0, 1) := by decide +kernel
theorem d_M_store_182 : decode prog_10_method_28_code 182 = .ok (.getfield 31, 3) := by decide +kernel
theorem d_M_store_185 : decode prog_10_method_28_code 185 = .ok (.iload_n 1, 1) := by decide +kernel
theorem d_M_store_186 : decode prog_10_method_28_code 186 = .ok (.laload, 1) := by decide +kernel
theorem d_M_store_187 : decode prog_10_method_28_code 187 = .ok (.lastore, 1) := by decide +kernel
theorem d_M_store_188 : decode prog_10_method_28_code 188 = .ok (.aload_n 0, 1) := by decide +kernel
theorem d_M_store_189 : decode prog_10_method_28_code 189 = .ok (.getfield 56, 3) := by decide +kernel
theorem d_M_store_192 : decode prog_10_method_28_code 192 = .ok (.aload_n 0, 1) := by decide +kernel
theorem d_M_store_193 : decode prog_10_method_28_code 193 = .ok (.getfield 142, 3) := by decide +kernel
theorem d_M_store_196 : decode prog_10_method_28_code 196 = .ok (.aload_n 0, 1) := by decide +kernel
theorem d_M_store_197 : decode prog_10_method_28_code 197 = .ok (.getfield 25, 3) := by decide +kernel
theorem d_M_store_200 : decode prog_10_method_28_code 200 = .ok (.iload_n 1, 1) := by decide +kernel
theorem d_M_store_201 : decode prog_10_method_28_code 201 = .ok (.baload, 1) := by decide +kernel
theorem d_M_store_202 : decode prog_10_method_28_code 202 = .ok (.bastore, 1) := by decide +kernel
theorem d_M_store_203 : decode prog_10_method_28_code 203 = .ok (.aload_n 0, 1) := by decide +kernel
theorem d_M_store_204 : decode prog_10_method_28_code 204 = .ok (.getfield 59, 3) := by decide +kernel
theorem d_M_store_207 : decode prog_10_method_28_code 207 = .ok (.aload_n 0, 1) := by decide +kernel
theorem d_M_store_208 : decode prog_10_method_28_code 208 = .ok (.getfield 142, 3) := by decide +kernel
theorem d_M_store_211 : decode prog_10_method_28_code 211 = .ok (.iload 6, 2) := by decide +kernel
theorem d_M_store_213 : decode prog_10_method_28_code 213 = .ok (.ifCond .eq 8, 3) := by decide +kernel
theorem d_M_store_216 : decode prog_10_method_28_code 216 = .ok (.iload 5, 2) := by decide +kernel
theorem d_M_store_218 : decode prog_10_method_28_code 218 = .ok (.goto 4, 3) := by decide +kernel
theorem d_M_store_221 : decode prog_10_method_28_code 221 = .ok (.iconst 0, 1) := by decide +kernel
theorem d_M_store_222 : decode prog_10_method_28_code 222 = .ok (.i2s, 1) := by decide +kernel
theorem d_M_store_223 : decode prog_10_method_28_code 223 = .ok (.sastore, 1) := by decide +kernel
theorem d_M_store_224 : decode prog_10_method_28_code 224 = .ok (.aload_n 0, 1) := by decide +kernel
theorem d_M_store_225 : decode prog_10_method_28_code 225 = .ok (.getfield 62, 3) := by decide +kernel
theorem d_M_store_228 : decode prog_10_method_28_code 228 = .ok (.aload_n 0, 1) := by decide +kernel
theorem d_M_store_229 : decode prog_10_method_28_code 229 = .ok (.getfield 142, 3) := by decide +kernel
theorem d_M_store_232 : decode prog_10_method_28_code 232 = .ok (.iload 6, 2) := by decide +kernel
theorem d_M_store_234 : decode prog_10_method_28_code 234 = .ok (.ifCond .eq 17, 3) := by decide +kernel
theorem d_M_store_237 : decode prog_10_method_28_code 237 = .ok (.aload_n 0, 1) := by decide +kernel
theorem d_M_store_238 : decode prog_10_method_28_code 238 = .ok (.getfield 62, 3) := by decide +kernel
theorem d_M_store_241 : decode prog_10_method_28_code 241 = .ok (.iload 5, 2) := by decide +kernel
theorem d_M_store_243 : decode prog_10_method_28_code 243 = .ok (.iconst 1, 1) := by decide +kernel
theorem d_M_store_244 : decode prog_10_method_28_code 244 = .ok (.isub, 1) := by decide +kernel
theorem d_M_store_245 : decode prog_10_method_28_code 245 = .ok (.baload, 1) := by decide +kernel
theorem d_M_store_246 : decode prog_10_method_28_code 246 = .ok (.iconst 1, 1) := by decide +kernel
theorem d_M_store_247 : decode prog_10_method_28_code 247 = .ok (.iadd, 1) := by decide +kernel
theorem d_M_store_248 : decode prog_10_method_28_code 248 = .ok (.goto 4, 3) := by decide +kernel
theorem d_M_store_251 : decode prog_10_method_28_code 251 = .ok (.iconst 1, 1) := by decide +kernel
theorem d_M_store_252 : decode prog_10_method_28_code 252 = .ok (.i2b, 1) := by decide +kernel
theorem d_M_store_253 : decode prog_10_method_28_code 253 = .ok (.bastore, 1) := by decide +kernel
theorem d_M_store_254 : decode prog_10_method_28_code 254 = .ok (.aload_n 0, 1) := by decide +kernel
theorem d_M_store_255 : decode prog_10_method_28_code 255 = .ok (.dup, 1) := by decide +kernel
theorem d_M_store_256 : decode prog_10_method_28_code 256 = .ok (.getfield 142, 3) := by decide +kernel
theorem d_M_store_259 : decode prog_10_method_28_code 259 = .ok (.iconst 1, 1) := by decide +kernel
theorem d_M_store_260 : decode prog_10_method_28_code 260 = .ok (.iadd, 1) := by decide +kernel
theorem d_M_store_261 : decode prog_10_method_28_code 261 = .ok (.putfield 142, 3) := by decide +kernel
theorem d_M_store_264 : decode prog_10_method_28_code 264 = .ok (.aload_n 0, 1) := by decide +kernel
theorem d_M_store_265 : decode prog_10_method_28_code 265 = .ok (.getfield 50, 3) := by decide +kernel
theorem d_M_store_268 : decode prog_10_method_28_code 268 = .ok (.iload_n 1, 1) := by decide +kernel
theorem d_M_store_269 : decode prog_10_method_28_code 269 = .ok (.aload_n 0, 1) := by decide +kernel
theorem d_M_store_270 : decode prog_10_method_28_code 270 = .ok (.getfield 142, 3) := by decide +kernel
theorem d_M_store_273 : decode prog_10_method_28_code 273 = .ok (.i2s, 1) := by decide +kernel
theorem d_M_store_274 : decode prog_10_method_28_code 274 = .ok (.sastore, 1) := by decide +kernel
theorem d_M_store_275 : decode prog_10_method_28_code 275 = .ok (.return_, 1) := by decide +kernel
theorem c_M_cost {l : Launch} {E : Ev} {σ : SS} {ad : Nat → Nat} (hI : rfI ad) (hB : rB σ) {sz : Nat} {k : Nat} (hk : k < 512) (hX9 : ∀ k, σ 17 k < 2 ^ 48) (hn8 : ∀ k, σ 18 k < 13) (hb1 : σ 19 k ≤ 512) : MCi l E y_M_cost prog_10_method_45_code 12 (some .int) 2 50 0 0 [.ref (ad 0), .int (nI k)] (rfM E σ ad) sz (fun r M' => r = nI (cstK σ k) ∧ M' = rfM E σ ad) := by
  rcases Nat.eq_zero_or_pos (σ 19 k) with h | h
  · exact c_M_cost0 hI hB hk hX9 hn8 h
  · exact c_M_cost1 hI hB hk hX9 hn8 h (by omega)

set_option maxHeartbeats 4000000 in
set_option maxRecDepth 100000 in
theorem c_M_stored {l : Launch} {E : Ev} {σ : SS} {ad : Nat → Nat} (hI : rfI ad) (hB : rB σ) {sz : Nat} {x y : Int32} (hS : σ 16 0 ≤ 512) (hX9 : ∀ k, σ 17 k < 2 ^ 48) (hn8 : ∀ k, σ 18 k < 13) (hb1 : ∀ k, σ 19 k ≤ 512) : MCi l E y_M_stored prog_10_method_46_code 3 (some .int) 3 81 0 0 [.ref (ad 0), .int x, .int y] (rfM E σ ad) sz (fun r M' => r = aSto σ x y ∧ M' = rfM E σ ad) := by
  refine mc_of R_M rfl [some (.ref (ad 0)), some (.int x), some (.int y)] (by decide) (Nat.le_of_ble_eq_true rfl) rfl ?_
  intro p e R s m ag below meth c ls Q A X hAe hQ hR hsz hw hl
  rw [← hAe] at hQ
  obtain ⟨⟨hx, hb, hml, hown, hts⟩, hE, hA, hr, hlk, hnm⟩ := X
  have hK := hE.1
  refine x_iload_n hx hb d_M_stored_0 hl rfl ?_
  refine lv_if_lt hx hb d_M_stored_1 rfl (fun h1 => ?_) (fun h1 => ?_)
  · refine lv_iconst (v := -1) hx hb d_M_stored_12 (by decide) ?_
    exact x_reti hQ hx hb hr hlk rfl hw (by omega) (by omega) d_M_stored_13 (⟨by first | exact (if_pos (Or.inl h1)).symm | exact (if_pos (Or.inr (le_of h9))).symm, rfl⟩)
  · refine x_iload_n hx hb d_M_stored_4 hl rfl ?_
    first | refine x_aload_n hx hb d_M_stored_5 hl rfl ?_ | refine x_aload_nQ hx hb d_M_stored_5 hl rfl ?_
    refine m_get hx hb hts hown hK hw ci_M (rf_at hI 0 (by decide) rfl) 16 (by decide) (wm3 88 rfl rfl) rfl d_M_stored_6 ?_
    have hs6 := hB 16 0 (by decide) (by decide)
    refine lv_icmp_lt hx hb d_M_stored_9 rfl (fun h9 => ?_) (fun h9 => ?_)
    · obtain ⟨k, hk9, rfl, hA9⟩ := sto_1 (by omega) h1 h9
      refine x_iload_n hx hb d_M_stored_14 hl rfl ?_
      refine lv_if_ne hx hb d_M_stored_15 rfl (fun h15 => ?_) (fun h15 => ?_)
      · refine x_iload_n hx hb d_M_stored_27 hl rfl ?_
        refine lv_iconst (v := nI 1) hx hb d_M_stored_28 (by decide) ?_
        refine lv_icmp_ne hx hb d_M_stored_29 rfl (fun h29 => ?_) (fun h29 => ?_)
        · refine x_iload_n hx hb d_M_stored_41 hl rfl ?_
          refine lv_iconst (v := nI 2) hx hb d_M_stored_42 (by decide) ?_
          refine lv_icmp_ne hx hb d_M_stored_43 rfl (fun h43 => ?_) (fun h43 => ?_)
          · refine x_iload_n hx hb d_M_stored_54 hl rfl ?_
            refine lv_iconst (v := nI 3) hx hb d_M_stored_55 (by decide) ?_
            refine lv_icmp_ne hx hb d_M_stored_56 rfl (fun h56 => ?_) (fun h56 => ?_)
            · refine lv_iconst (v := -1) hx hb d_M_stored_68 (by decide) ?_
              exact x_reti hQ hx hb hr hlk rfl hw (by omega) (by omega) d_M_stored_69 (⟨by rw [hA9, if_neg h15]; first | rw [if_pos h29] | rw [if_neg h29, if_pos h43] | rw [if_neg h29, if_neg h43, if_pos h56] | rw [if_neg h29, if_neg h43, if_neg h56], rfl⟩)
            · first | refine x_aload_n hx hb d_M_stored_59 hl rfl ?_ | refine x_aload_nQ hx hb d_M_stored_59 hl rfl ?_
              refine m_get hx hb hts hown hK hw ci_M (rf_at hI 0 (by decide) rfl) 18 (by decide) (wm3 90 rfl rfl) rfl d_M_stored_60 ?_
              refine x_iload_n hx hb d_M_stored_63 hl rfl ?_
              refine rl_18 hx hb hK hI hB hw (by omega) d_M_stored_64 (fun hv64 => ?_)
              refine lv_goto hx hb d_M_stored_65 rfl ?_
              exact x_reti hQ hx hb hr hlk rfl hw (by omega) (by omega) d_M_stored_69 (⟨by rw [hA9, if_neg h15]; first | rw [if_pos h29] | rw [if_neg h29, if_pos h43] | rw [if_neg h29, if_neg h43, if_pos h56] | rw [if_neg h29, if_neg h43, if_neg h56], rfl⟩)
          · first | refine x_aload_n hx hb d_M_stored_46 hl rfl ?_ | refine x_aload_nQ hx hb d_M_stored_46 hl rfl ?_
            refine x_iload_n hx hb d_M_stored_47 hl rfl ?_
            refine m_calli (k_V ⟨hx, hb, hml, hown, hts⟩ hE hA hw (c_M_cost hI hB (by omega) hX9 hn8 (hb1 k)) (ci_M).1 rfl (rf_at hI 0 (by decide) rfl) (wm4 63 rfl rfl) (wm4 65 rfl rfl) (wmp3 5 rfl) (wm1 9 rfl rfl) (wm4 66 rfl rfl) rfl rfl ar_M_cost ⟨Nat.le_trans (Nat.le_of_ble_eq_true rfl) hR.1, Nat.le_trans (Nat.le_of_ble_eq_true rfl) hR.2.1⟩ rfl hl.1 rfl (Nat.le_of_ble_eq_true rfl) d_M_stored_48 ⟨Nat.le_trans (Nat.le_of_ble_eq_true rfl) hR.2.2.1, Nat.le_trans (Nat.le_of_ble_eq_true rfl) hR.2.2.2⟩) hw (mfr_in hw hA) (fun r48 M48 H locs hP48 hw => ?_)
            obtain ⟨rfl, hM48⟩ := hP48
            rw [hM48] at hw
            refine lv_goto hx hb d_M_stored_51 rfl ?_
            exact x_reti hQ hx hb hr hlk rfl hw (by omega) (by omega) d_M_stored_69 (⟨by rw [hA9, if_neg h15]; first | rw [if_pos h29] | rw [if_neg h29, if_pos h43] | rw [if_neg h29, if_neg h43, if_pos h56] | rw [if_neg h29, if_neg h43, if_neg h56], rfl⟩)
        · first | refine x_aload_n hx hb d_M_stored_32 hl rfl ?_ | refine x_aload_nQ hx hb d_M_stored_32 hl rfl ?_
          refine m_get hx hb hts hown hK hw ci_M (rf_at hI 0 (by decide) rfl) 20 (by decide) (wm3 92 rfl rfl) rfl d_M_stored_33 ?_
          refine x_iload_n hx hb d_M_stored_36 hl rfl ?_
          refine rl_20 hx hb hK hI hB hw (by omega) d_M_stored_37 (fun hv37 => ?_)
          refine lv_goto hx hb d_M_stored_38 rfl ?_
          exact x_reti hQ hx hb hr hlk rfl hw (by omega) (by omega) d_M_stored_69 (⟨by rw [hA9, if_neg h15]; first | rw [if_pos h29] | rw [if_neg h29, if_pos h43] | rw [if_neg h29, if_neg h43, if_pos h56] | rw [if_neg h29, if_neg h43, if_neg h56], rfl⟩)
      · first | refine x_aload_n hx hb d_M_stored_18 hl rfl ?_ | refine x_aload_nQ hx hb d_M_stored_18 hl rfl ?_
        refine m_get hx hb hts hown hK hw ci_M (rf_at hI 0 (by decide) rfl) 19 (by decide) (wm3 91 rfl rfl) rfl d_M_stored_19 ?_
        refine x_iload_n hx hb d_M_stored_22 hl rfl ?_
        refine rl_19 hx hb hK hI hB hw (by omega) d_M_stored_23 (fun hv23 => ?_)
        refine lv_iconst (v := nI 1) hx hb d_M_stored_24 (by decide) ?_
        refine lv_isub hx hb d_M_stored_25 ?_
        exact x_reti hQ hx hb hr hlk rfl hw (by omega) (by omega) d_M_stored_26 (⟨by rw [hA9, if_pos h15], rfl⟩)
    · refine lv_iconst (v := -1) hx hb d_M_stored_12 (by decide) ?_
      exact x_reti hQ hx hb hr hlk rfl hw (by omega) (by omega) d_M_stored_13 (⟨by first | exact (if_pos (Or.inl h1)).symm | exact (if_pos (Or.inr (le_of h9))).symm, rfl⟩)

set_option maxHeartbeats 4000000 in
set_option maxRecDepth 100000 in
theorem c_M_store {l : Launch} {E : Ev} {σ : SS} {ad : Nat → Nat} (hI : rfI ad) (hB : rB σ) {sz : Nat} {n : Nat} (hn : n < 1300) (h13a : ∀ j, σ 13 j < 1300) (h15a : ∀ j, σ 15 j ≤ 512) (h7a : ∀ j, σ 7 j < 128) (hSa : σ 7 n ≠ 0 → σ 16 0 < 512) (hSb : σ 16 0 ≤ 512) (hX17a : ∀ j, σ 17 j < 2 ^ 48) (hX9a : ∀ j, σ 9 j < 2 ^ 48) (hc11a : σ 11 n < 1000) : MCv l E y_M_store prog_10_method_28_code 7 none 1 21 0 0 [.ref (ad 0), .int (nI n)] (rfM E σ ad) sz (fun M' => M' = rfM E (stf σ n) ad ∧ rB (stf σ n)) := by
  refine mc_of R_M rfl [some (.ref (ad 0)), some (.int (nI n)), none, none, none, none, none] (by decide) (Nat.le_of_ble_eq_true rfl) rfl ?_
  intro p e R s m ag below meth c ls Q A X hAe hQ hR hsz hw hl
  rw [← hAe] at hQ
  obtain ⟨⟨hx, hb, hml, hown, hts⟩, hE, hA, hr, hlk, hnm⟩ := X
  have hK := hE.1
  first | refine x_aload_n hx hb d_M_store_0 hl rfl ?_ | refine x_aload_nQ hx hb d_M_store_0 hl rfl ?_
  refine m_get hx hb hts hown hK hw ci_M (rf_at hI 0 (by decide) rfl) 15 (by decide) (wm3 87 rfl rfl) rfl d_M_store_1 ?_
  refine x_iload_n hx hb d_M_store_4 hl rfl ?_
  refine lv_iconst (v := nI 0) hx hb d_M_store_5 (by decide) ?_
  refine rs_15 hx hb hK hI hB hw (by omega) (by omega) d_M_store_6 (fun H locs hw hB => ?_)
  obtain ⟨τ, hτ⟩ : ∃ τ, τ = sp σ 15 n 0 := ⟨_, rfl⟩
  have hst2 : stf σ n = st2 τ n := by rw [hτ]; rfl
  rw [← hτ] at hw hB
  have h1300 : ∀ j, τ 13 j < 1300 := by rw [hτ]; exact h13a
  have h515 : ∀ j, τ 15 j ≤ 512 := by
    intro j
    rw [hτ, sp_at]
    split
    · omega
    · exact h15a j
  have h712 : ∀ j, τ 7 j < 128 := by rw [hτ]; exact h7a
  have hSn : τ 7 n ≠ 0 → τ 16 0 < 512 := by rw [hτ]; exact hSa
  have hS512 : τ 16 0 ≤ 512 := by rw [hτ]; exact hSb
  have hX17 : ∀ j, τ 17 j < 2 ^ 48 := by rw [hτ]; exact hX17a
  have hX9 : ∀ j, τ 9 j < 2 ^ 48 := by rw [hτ]; exact hX9a
  have hc11 : τ 11 n < 1000 := by rw [hτ]; exact hc11a
  have hfr : frb (τ 11 n) ≤ τ 11 n := Nat.sub_le _ _
  have loop2 : ∀ (u k a : Nat) (H : Heap) (locs : List Loc) (ls : Array Slot), k + u = frb (τ 11 n) → a < 1300 → mw E.1 vwCl A s.heap (rfM E τ ad) H locs → lh ls [some (.ref (ad 0)), some (.int (nI n)), some (.int (nI (τ 11 n))), some (.int (nI (frb (τ 11 n)))), some (.int (nI a)), some (.int (nI k)), none] → anc τ u a = anc τ (frb (τ 11 n)) n → τ 7 n ≠ 0 → eqf τ n (τ 16 0) 0 = τ 16 0 → W p l e R s m ag below meth c H locs 0 0 Q (F0 m 96 ls []) := by
    intro u
    induction u with
    | zero =>
      intro k a H locs ls hku ha13 hw hl hT h13 h75
      refine x_iload hx hb d_M_store_96 hl rfl ?_
      refine x_iload_n hx hb d_M_store_98 hl rfl ?_
      refine x_icmp_ge hx hb d_M_store_99 rfl (by omega) (by omega) (fun h99 => ?_) (fun h99 => ?_)
      · have ha : anc τ (frb (τ 11 n)) n = a := hT.symm
        first | refine x_aload_n hx hb d_M_store_117 hl rfl ?_ | refine x_aload_nQ hx hb d_M_store_117 hl rfl ?_
        refine m_get hx hb hts hown hK hw ci_M (rf_at hI 0 (by decide) rfl) 6 (by decide) (wm3 78 rfl rfl) rfl d_M_store_118 ?_
        refine x_iload hx hb d_M_store_121 hl rfl ?_
        refine rl_6 hx hb hK hI hB hw (by omega) d_M_store_123 (fun hv123 => ?_)
        refine lv_iconst (v := nI 2) hx hb d_M_store_124 (by decide) ?_
        refine x_icmp_ne hx hb d_M_store_125 rfl (by omega) (by omega) (fun h125 => ?_) (fun h125 => ?_)
        · have hof := oldf_0 ha (Or.inl h125)
          refine lv_iconst (v := nI 0) hx hb d_M_store_142 (by decide) ?_
          refine x_istore hx hb d_M_store_143 hl (Nat.le_of_ble_eq_true rfl) (lh_k (i := 4) rfl (by first | exact lk_n | exact lk_i | exact lk_r | exact lk_q | exact lk_0)) (fun ls hl => ?_)
          have hal := alw_le (c := τ 11 n) 20 0
          refine x_iload hx hb d_M_store_145 hl rfl ?_
          refine x_if_le hx hb d_M_store_147 rfl (by omega) (fun h147 => ?_) (fun h147 => ?_)
          · first
              | exact absurd h147 (by omega)
              | have h3f := st3_f hof (Or.inl (by omega))
                refine lv_iconst (v := nI 0) hx hb d_M_store_170 (by decide) ?_
                refine x_istore hx hb d_M_store_171 hl (Nat.le_of_ble_eq_true rfl) (lh_k (i := 5) rfl (by first | exact lk_n | exact lk_i | exact lk_r | exact lk_q | exact lk_0)) (fun ls hl => ?_)
                have hS2 := hSn h13
                first | refine x_aload_n hx hb d_M_store_173 hl rfl ?_ | refine x_aload_nQ hx hb d_M_store_173 hl rfl ?_
                refine m_get hx hb hts hown hK hw ci_M (rf_at hI 0 (by decide) rfl) 17 (by decide) (wm3 89 rfl rfl) rfl d_M_store_174 ?_
                first | refine x_aload_n hx hb d_M_store_177 hl rfl ?_ | refine x_aload_nQ hx hb d_M_store_177 hl rfl ?_
                refine m_get (v := .int (nI (τ 16 0))) hx hb hts hown hK hw ci_M (rf_at hI 0 (by decide) rfl) 16 (by decide) (wm3 88 rfl rfl) rfl d_M_store_178 ?_
                first | refine x_aload_n hx hb d_M_store_181 hl rfl ?_ | refine x_aload_nQ hx hb d_M_store_181 hl rfl ?_
                refine m_get hx hb hts hown hK hw ci_M (rf_at hI 0 (by decide) rfl) 9 (by decide) (wm3 81 rfl rfl) rfl d_M_store_182 ?_
                refine x_iload_n hx hb d_M_store_185 hl rfl ?_
                refine rl_9 hx hb hK hI hw (by omega) d_M_store_186 ?_
                refine rs_17 hx hb hK hI hB hw (by omega) d_M_store_187 (fun H locs hw hB => ?_)
                first | refine x_aload_n hx hb d_M_store_188 hl rfl ?_ | refine x_aload_nQ hx hb d_M_store_188 hl rfl ?_
                refine m_get hx hb hts hown hK hw ci_M (rf_at hI 0 (by decide) rfl) 18 (by decide) (wm3 90 rfl rfl) rfl d_M_store_189 ?_
                first | refine x_aload_n hx hb d_M_store_192 hl rfl ?_ | refine x_aload_nQ hx hb d_M_store_192 hl rfl ?_
                refine m_get (v := .int (nI (τ 16 0))) hx hb hts hown hK hw ci_M (rf_at hI 0 (by decide) rfl) 16 (by decide) (wm3 88 rfl rfl) rfl d_M_store_193 ?_
                first | refine x_aload_n hx hb d_M_store_196 hl rfl ?_ | refine x_aload_nQ hx hb d_M_store_196 hl rfl ?_
                refine m_get hx hb hts hown hK hw ci_M (rf_at hI 0 (by decide) rfl) 7 (by decide) (wm3 79 rfl rfl) rfl d_M_store_197 ?_
                refine x_iload_n hx hb d_M_store_200 hl rfl ?_
                refine rl_7 hx hb hK hI hB hw (by omega) d_M_store_201 (fun hv201 => ?_)
                refine rs_18 hx hb hK hI hB hw (by omega) (show _ from h712 n) d_M_store_202 (fun H locs hw hB => ?_)
                first | refine x_aload_n hx hb d_M_store_203 hl rfl ?_ | refine x_aload_nQ hx hb d_M_store_203 hl rfl ?_
                refine m_get hx hb hts hown hK hw ci_M (rf_at hI 0 (by decide) rfl) 19 (by decide) (wm3 91 rfl rfl) rfl d_M_store_204 ?_
                first | refine x_aload_n hx hb d_M_store_207 hl rfl ?_ | refine x_aload_nQ hx hb d_M_store_207 hl rfl ?_
                refine m_get (v := .int (nI (τ 16 0))) hx hb hts hown hK hw ci_M (rf_at hI 0 (by decide) rfl) 16 (by decide) (wm3 88 rfl rfl) rfl d_M_store_208 ?_
                refine x_iload hx hb d_M_store_211 hl rfl ?_
                refine x_if_eq hx hb d_M_store_213 rfl (by omega) (fun h213 => ?_) (fun h213 => ?_)
                · first
                    | exact absurd h213 (by omega)
                    | refine lv_iconst (v := nI 0) hx hb d_M_store_221 (by decide) ?_
                      first | refine x_i2s hx hb d_M_store_222 (by omega) ?_ | refine lv_i2s hx hb d_M_store_222 rfl ?_
                      refine rs_19 hx hb hK hI hB hw (by omega) (by omega) d_M_store_223 (fun H locs hw hB => ?_)
                      first | refine x_aload_n hx hb d_M_store_224 hl rfl ?_ | refine x_aload_nQ hx hb d_M_store_224 hl rfl ?_
                      refine m_get hx hb hts hown hK hw ci_M (rf_at hI 0 (by decide) rfl) 20 (by decide) (wm3 92 rfl rfl) rfl d_M_store_225 ?_
                      first | refine x_aload_n hx hb d_M_store_228 hl rfl ?_ | refine x_aload_nQ hx hb d_M_store_228 hl rfl ?_
                      refine m_get (v := .int (nI (τ 16 0))) hx hb hts hown hK hw ci_M (rf_at hI 0 (by decide) rfl) 16 (by decide) (wm3 88 rfl rfl) rfl d_M_store_229 ?_
                      refine x_iload hx hb d_M_store_232 hl rfl ?_
                      refine x_if_eq hx hb d_M_store_234 rfl (by omega) (fun h234 => ?_) (fun h234 => ?_)
                      · first
                          | exact absurd h234 (by omega)
                          | refine lv_iconst (v := nI 1) hx hb d_M_store_251 (by decide) ?_
                            first | refine x_i2b hx hb d_M_store_252 (by omega) ?_ | refine x_i2b hx hb d_M_store_252 (show _ from hch) ?_
                            first | refine rs_20 hx hb hK hI hB hw (by omega) (by omega) d_M_store_253 (fun H locs hw hB => ?_) | refine rs_20 hx hb hK hI hB hw (by omega) (show _ from hch) d_M_store_253 (fun H locs hw hB => ?_)
                            first | refine x_aload_n hx hb d_M_store_254 hl rfl ?_ | refine x_aload_nQ hx hb d_M_store_254 hl rfl ?_
                            first | refine lv_dup hx hb d_M_store_255 rfl ?_ | refine lv_dup hx hb d_M_store_255 (va_rf_c _) ?_
                            refine m_get (v := .int (nI (τ 16 0))) hx hb hts hown hK hw ci_M (rf_at hI 0 (by decide) rfl) 16 (by decide) (wm3 88 rfl rfl) rfl d_M_store_256 ?_
                            refine lv_iconst (v := nI 1) hx hb d_M_store_259 (by decide) ?_
                            first | refine x_iadd hx hb d_M_store_260 ?_ | refine lv_iadd hx hb d_M_store_260 ?_
                            refine rp_16 hx hb hts hown hK hI hB hw (wm3 88 rfl rfl) (by omega) d_M_store_261 (fun H locs hw hB => ?_)
                            first | refine x_aload_n hx hb d_M_store_264 hl rfl ?_ | refine x_aload_nQ hx hb d_M_store_264 hl rfl ?_
                            refine m_get hx hb hts hown hK hw ci_M (rf_at hI 0 (by decide) rfl) 15 (by decide) (wm3 87 rfl rfl) rfl d_M_store_265 ?_
                            refine x_iload_n hx hb d_M_store_268 hl rfl ?_
                            first | refine x_aload_n hx hb d_M_store_269 hl rfl ?_ | refine x_aload_nQ hx hb d_M_store_269 hl rfl ?_
                            refine m_get (v := .int (nI (τ 16 0 + 1))) hx hb hts hown hK hw ci_M (rf_at hI 0 (by decide) rfl) 16 (by decide) (wm3 88 rfl rfl) rfl d_M_store_270 ?_
                            first | refine x_i2s hx hb d_M_store_273 (by omega) ?_ | refine lv_i2s hx hb d_M_store_273 rfl ?_
                            refine rs_15 hx hb hK hI hB hw (by omega) (by omega) d_M_store_274 (fun H locs hw hB => ?_)
                            exact x_retv hQ hx hb hr hlk hw (by omega) (by omega) d_M_store_275 (by rw [hst2, st2_3 h13 h75, h3f]; exact ⟨rfl, hB⟩)
                      · first
                          | exact absurd h234 (by omega)
                          | first | refine x_aload_n hx hb d_M_store_237 hl rfl ?_ | refine x_aload_nQ hx hb d_M_store_237 hl rfl ?_
                            refine m_get hx hb hts hown hK hw ci_M (rf_at hI 0 (by decide) rfl) 20 (by decide) (wm3 92 rfl rfl) rfl d_M_store_238 ?_
                            refine x_iload hx hb d_M_store_241 hl rfl ?_
                            refine lv_iconst (v := nI 1) hx hb d_M_store_243 (by decide) ?_
                            refine x_isub hx hb d_M_store_244 (by omega) ?_
                            refine rl_20 hx hb hK hI hB hw (by omega) d_M_store_245 (fun hv245 => ?_)
                            refine lv_iconst (v := nI 1) hx hb d_M_store_246 (by decide) ?_
                            first | refine x_iadd hx hb d_M_store_247 ?_ | refine lv_iadd hx hb d_M_store_247 ?_
                            refine lv_goto hx hb d_M_store_248 rfl ?_
                            first | refine x_i2b hx hb d_M_store_252 (by omega) ?_ | refine x_i2b hx hb d_M_store_252 (show _ from hch) ?_
                            first | refine rs_20 hx hb hK hI hB hw (by omega) (by omega) d_M_store_253 (fun H locs hw hB => ?_) | refine rs_20 hx hb hK hI hB hw (by omega) (show _ from hch) d_M_store_253 (fun H locs hw hB => ?_)
                            first | refine x_aload_n hx hb d_M_store_254 hl rfl ?_ | refine x_aload_nQ hx hb d_M_store_254 hl rfl ?_
                            first | refine lv_dup hx hb d_M_store_255 rfl ?_ | refine lv_dup hx hb d_M_store_255 (va_rf_c _) ?_
                            refine m_get (v := .int (nI (τ 16 0))) hx hb hts hown hK hw ci_M (rf_at hI 0 (by decide) rfl) 16 (by decide) (wm3 88 rfl rfl) rfl d_M_store_256 ?_
                            refine lv_iconst (v := nI 1) hx hb d_M_store_259 (by decide) ?_
                            first | refine x_iadd hx hb d_M_store_260 ?_ | refine lv_iadd hx hb d_M_store_260 ?_
                            refine rp_16 hx hb hts hown hK hI hB hw (wm3 88 rfl rfl) (by omega) d_M_store_261 (fun H locs hw hB => ?_)
                            first | refine x_aload_n hx hb d_M_store_264 hl rfl ?_ | refine x_aload_nQ hx hb d_M_store_264 hl rfl ?_
                            refine m_get hx hb hts hown hK hw ci_M (rf_at hI 0 (by decide) rfl) 15 (by decide) (wm3 87 rfl rfl) rfl d_M_store_265 ?_
                            refine x_iload_n hx hb d_M_store_268 hl rfl ?_
                            first | refine x_aload_n hx hb d_M_store_269 hl rfl ?_ | refine x_aload_nQ hx hb d_M_store_269 hl rfl ?_
                            refine m_get (v := .int (nI (τ 16 0 + 1))) hx hb hts hown hK hw ci_M (rf_at hI 0 (by decide) rfl) 16 (by decide) (wm3 88 rfl rfl) rfl d_M_store_270 ?_
                            first | refine x_i2s hx hb d_M_store_273 (by omega) ?_ | refine lv_i2s hx hb d_M_store_273 rfl ?_
                            refine rs_15 hx hb hK hI hB hw (by omega) (by omega) d_M_store_274 (fun H locs hw hB => ?_)
                            exact x_retv hQ hx hb hr hlk hw (by omega) (by omega) d_M_store_275 (by rw [hst2, st2_3 h13 h75, h3f]; exact ⟨rfl, hB⟩)
                · first
                    | exact absurd h213 (by omega)
                    | refine x_iload hx hb d_M_store_216 hl rfl ?_
                      refine lv_goto hx hb d_M_store_218 rfl ?_
                      first | refine x_i2s hx hb d_M_store_222 (by omega) ?_ | refine lv_i2s hx hb d_M_store_222 rfl ?_
                      refine rs_19 hx hb hK hI hB hw (by omega) (by omega) d_M_store_223 (fun H locs hw hB => ?_)
                      first | refine x_aload_n hx hb d_M_store_224 hl rfl ?_ | refine x_aload_nQ hx hb d_M_store_224 hl rfl ?_
                      refine m_get hx hb hts hown hK hw ci_M (rf_at hI 0 (by decide) rfl) 20 (by decide) (wm3 92 rfl rfl) rfl d_M_store_225 ?_
                      first | refine x_aload_n hx hb d_M_store_228 hl rfl ?_ | refine x_aload_nQ hx hb d_M_store_228 hl rfl ?_
                      refine m_get (v := .int (nI (τ 16 0))) hx hb hts hown hK hw ci_M (rf_at hI 0 (by decide) rfl) 16 (by decide) (wm3 88 rfl rfl) rfl d_M_store_229 ?_
                      refine x_iload hx hb d_M_store_232 hl rfl ?_
                      refine x_if_eq hx hb d_M_store_234 rfl (by omega) (fun h234 => ?_) (fun h234 => ?_)
                      · first
                          | exact absurd h234 (by omega)
                          | refine lv_iconst (v := nI 1) hx hb d_M_store_251 (by decide) ?_
                            first | refine x_i2b hx hb d_M_store_252 (by omega) ?_ | refine x_i2b hx hb d_M_store_252 (show _ from hch) ?_
                            first | refine rs_20 hx hb hK hI hB hw (by omega) (by omega) d_M_store_253 (fun H locs hw hB => ?_) | refine rs_20 hx hb hK hI hB hw (by omega) (show _ from hch) d_M_store_253 (fun H locs hw hB => ?_)
                            first | refine x_aload_n hx hb d_M_store_254 hl rfl ?_ | refine x_aload_nQ hx hb d_M_store_254 hl rfl ?_
                            first | refine lv_dup hx hb d_M_store_255 rfl ?_ | refine lv_dup hx hb d_M_store_255 (va_rf_c _) ?_
                            refine m_get (v := .int (nI (τ 16 0))) hx hb hts hown hK hw ci_M (rf_at hI 0 (by decide) rfl) 16 (by decide) (wm3 88 rfl rfl) rfl d_M_store_256 ?_
                            refine lv_iconst (v := nI 1) hx hb d_M_store_259 (by decide) ?_
                            first | refine x_iadd hx hb d_M_store_260 ?_ | refine lv_iadd hx hb d_M_store_260 ?_
                            refine rp_16 hx hb hts hown hK hI hB hw (wm3 88 rfl rfl) (by omega) d_M_store_261 (fun H locs hw hB => ?_)
                            first | refine x_aload_n hx hb d_M_store_264 hl rfl ?_ | refine x_aload_nQ hx hb d_M_store_264 hl rfl ?_
                            refine m_get hx hb hts hown hK hw ci_M (rf_at hI 0 (by decide) rfl) 15 (by decide) (wm3 87 rfl rfl) rfl d_M_store_265 ?_
                            refine x_iload_n hx hb d_M_store_268 hl rfl ?_
                            first | refine x_aload_n hx hb d_M_store_269 hl rfl ?_ | refine x_aload_nQ hx hb d_M_store_269 hl rfl ?_
                            refine m_get (v := .int (nI (τ 16 0 + 1))) hx hb hts hown hK hw ci_M (rf_at hI 0 (by decide) rfl) 16 (by decide) (wm3 88 rfl rfl) rfl d_M_store_270 ?_
                            first | refine x_i2s hx hb d_M_store_273 (by omega) ?_ | refine lv_i2s hx hb d_M_store_273 rfl ?_
                            refine rs_15 hx hb hK hI hB hw (by omega) (by omega) d_M_store_274 (fun H locs hw hB => ?_)
                            exact x_retv hQ hx hb hr hlk hw (by omega) (by omega) d_M_store_275 (by rw [hst2, st2_3 h13 h75, h3f]; exact ⟨rfl, hB⟩)
                      · first
                          | exact absurd h234 (by omega)
                          | first | refine x_aload_n hx hb d_M_store_237 hl rfl ?_ | refine x_aload_nQ hx hb d_M_store_237 hl rfl ?_
                            refine m_get hx hb hts hown hK hw ci_M (rf_at hI 0 (by decide) rfl) 20 (by decide) (wm3 92 rfl rfl) rfl d_M_store_238 ?_
                            refine x_iload hx hb d_M_store_241 hl rfl ?_
                            refine lv_iconst (v := nI 1) hx hb d_M_store_243 (by decide) ?_
                            refine x_isub hx hb d_M_store_244 (by omega) ?_
                            refine rl_20 hx hb hK hI hB hw (by omega) d_M_store_245 (fun hv245 => ?_)
                            refine lv_iconst (v := nI 1) hx hb d_M_store_246 (by decide) ?_
                            first | refine x_iadd hx hb d_M_store_247 ?_ | refine lv_iadd hx hb d_M_store_247 ?_
                            refine lv_goto hx hb d_M_store_248 rfl ?_
                            first | refine x_i2b hx hb d_M_store_252 (by omega) ?_ | refine x_i2b hx hb d_M_store_252 (show _ from hch) ?_
                            first | refine rs_20 hx hb hK hI hB hw (by omega) (by omega) d_M_store_253 (fun H locs hw hB => ?_) | refine rs_20 hx hb hK hI hB hw (by omega) (show _ from hch) d_M_store_253 (fun H locs hw hB => ?_)
                            first | refine x_aload_n hx hb d_M_store_254 hl rfl ?_ | refine x_aload_nQ hx hb d_M_store_254 hl rfl ?_
                            first | refine lv_dup hx hb d_M_store_255 rfl ?_ | refine lv_dup hx hb d_M_store_255 (va_rf_c _) ?_
                            refine m_get (v := .int (nI (τ 16 0))) hx hb hts hown hK hw ci_M (rf_at hI 0 (by decide) rfl) 16 (by decide) (wm3 88 rfl rfl) rfl d_M_store_256 ?_
                            refine lv_iconst (v := nI 1) hx hb d_M_store_259 (by decide) ?_
                            first | refine x_iadd hx hb d_M_store_260 ?_ | refine lv_iadd hx hb d_M_store_260 ?_
                            refine rp_16 hx hb hts hown hK hI hB hw (wm3 88 rfl rfl) (by omega) d_M_store_261 (fun H locs hw hB => ?_)
                            first | refine x_aload_n hx hb d_M_store_264 hl rfl ?_ | refine x_aload_nQ hx hb d_M_store_264 hl rfl ?_
                            refine m_get hx hb hts hown hK hw ci_M (rf_at hI 0 (by decide) rfl) 15 (by decide) (wm3 87 rfl rfl) rfl d_M_store_265 ?_
                            refine x_iload_n hx hb d_M_store_268 hl rfl ?_
                            first | refine x_aload_n hx hb d_M_store_269 hl rfl ?_ | refine x_aload_nQ hx hb d_M_store_269 hl rfl ?_
                            refine m_get (v := .int (nI (τ 16 0 + 1))) hx hb hts hown hK hw ci_M (rf_at hI 0 (by decide) rfl) 16 (by decide) (wm3 88 rfl rfl) rfl d_M_store_270 ?_
                            first | refine x_i2s hx hb d_M_store_273 (by omega) ?_ | refine lv_i2s hx hb d_M_store_273 rfl ?_
                            refine rs_15 hx hb hK hI hB hw (by omega) (by omega) d_M_store_274 (fun H locs hw hB => ?_)
                            exact x_retv hQ hx hb hr hlk hw (by omega) (by omega) d_M_store_275 (by rw [hst2, st2_3 h13 h75, h3f]; exact ⟨rfl, hB⟩)
          · first
              | exact absurd h147 (by omega)
              | first | refine x_aload_n hx hb d_M_store_150 hl rfl ?_ | refine x_aload_nQ hx hb d_M_store_150 hl rfl ?_
                refine m_get hx hb hts hown hK hw ci_M (rf_at hI 0 (by decide) rfl) 20 (by decide) (wm3 92 rfl rfl) rfl d_M_store_151 ?_
                refine x_iload hx hb d_M_store_154 hl rfl ?_
                refine lv_iconst (v := nI 1) hx hb d_M_store_156 (by decide) ?_
                refine x_isub hx hb d_M_store_157 (by omega) ?_
                refine rl_20 hx hb hK hI hB hw (by omega) d_M_store_158 (fun hv158 => ?_)
                refine x_iload_n hx hb d_M_store_159 hl rfl ?_
                refine m_calli (k_S ⟨hx, hb, hml, hown, hts⟩ hE hA hw (c_M_allowed (by omega)) (wm3 235 rfl rfl) (wm3 236 rfl rfl) (wm1 9 rfl rfl) (wm3 237 rfl rfl) rfl rfl ar_M_allowed ⟨Nat.le_trans (Nat.le_of_ble_eq_true rfl) hR.1, Nat.le_trans (Nat.le_of_ble_eq_true rfl) hR.2.1⟩ rfl hl.1 rfl (Nat.le_of_ble_eq_true rfl) d_M_store_160 ⟨Nat.le_trans (Nat.le_of_ble_eq_true rfl) hR.2.2.1, Nat.le_trans (Nat.le_of_ble_eq_true rfl) hR.2.2.2⟩) hw (mfr_in hw hA) (fun r160 M160 H locs hP160 hw => ?_)
                obtain ⟨rfl, hM160⟩ := hP160
                rw [hM160] at hw
                refine x_icmp_ge hx hb d_M_store_163 rfl (by omega) (by omega) (fun h163 => ?_) (fun h163 => ?_)
                · have h3f := st3_f hof (Or.inr h163)
                  refine lv_iconst (v := nI 0) hx hb d_M_store_170 (by decide) ?_
                  refine x_istore hx hb d_M_store_171 hl (Nat.le_of_ble_eq_true rfl) (lh_k (i := 5) rfl (by first | exact lk_n | exact lk_i | exact lk_r | exact lk_q | exact lk_0)) (fun ls hl => ?_)
                  have hS2 := hSn h13
                  first | refine x_aload_n hx hb d_M_store_173 hl rfl ?_ | refine x_aload_nQ hx hb d_M_store_173 hl rfl ?_
                  refine m_get hx hb hts hown hK hw ci_M (rf_at hI 0 (by decide) rfl) 17 (by decide) (wm3 89 rfl rfl) rfl d_M_store_174 ?_
                  first | refine x_aload_n hx hb d_M_store_177 hl rfl ?_ | refine x_aload_nQ hx hb d_M_store_177 hl rfl ?_
                  refine m_get (v := .int (nI (τ 16 0))) hx hb hts hown hK hw ci_M (rf_at hI 0 (by decide) rfl) 16 (by decide) (wm3 88 rfl rfl) rfl d_M_store_178 ?_
                  first | refine x_aload_n hx hb d_M_store_181 hl rfl ?_ | refine x_aload_nQ hx hb d_M_store_181 hl rfl ?_
                  refine m_get hx hb hts hown hK hw ci_M (rf_at hI 0 (by decide) rfl) 9 (by decide) (wm3 81 rfl rfl) rfl d_M_store_182 ?_
                  refine x_iload_n hx hb d_M_store_185 hl rfl ?_
                  refine rl_9 hx hb hK hI hw (by omega) d_M_store_186 ?_
                  refine rs_17 hx hb hK hI hB hw (by omega) d_M_store_187 (fun H locs hw hB => ?_)
                  first | refine x_aload_n hx hb d_M_store_188 hl rfl ?_ | refine x_aload_nQ hx hb d_M_store_188 hl rfl ?_
                  refine m_get hx hb hts hown hK hw ci_M (rf_at hI 0 (by decide) rfl) 18 (by decide) (wm3 90 rfl rfl) rfl d_M_store_189 ?_
                  first | refine x_aload_n hx hb d_M_store_192 hl rfl ?_ | refine x_aload_nQ hx hb d_M_store_192 hl rfl ?_
                  refine m_get (v := .int (nI (τ 16 0))) hx hb hts hown hK hw ci_M (rf_at hI 0 (by decide) rfl) 16 (by decide) (wm3 88 rfl rfl) rfl d_M_store_193 ?_
                  first | refine x_aload_n hx hb d_M_store_196 hl rfl ?_ | refine x_aload_nQ hx hb d_M_store_196 hl rfl ?_
                  refine m_get hx hb hts hown hK hw ci_M (rf_at hI 0 (by decide) rfl) 7 (by decide) (wm3 79 rfl rfl) rfl d_M_store_197 ?_
                  refine x_iload_n hx hb d_M_store_200 hl rfl ?_
                  refine rl_7 hx hb hK hI hB hw (by omega) d_M_store_201 (fun hv201 => ?_)
                  refine rs_18 hx hb hK hI hB hw (by omega) (show _ from h712 n) d_M_store_202 (fun H locs hw hB => ?_)
                  first | refine x_aload_n hx hb d_M_store_203 hl rfl ?_ | refine x_aload_nQ hx hb d_M_store_203 hl rfl ?_
                  refine m_get hx hb hts hown hK hw ci_M (rf_at hI 0 (by decide) rfl) 19 (by decide) (wm3 91 rfl rfl) rfl d_M_store_204 ?_
                  first | refine x_aload_n hx hb d_M_store_207 hl rfl ?_ | refine x_aload_nQ hx hb d_M_store_207 hl rfl ?_
                  refine m_get (v := .int (nI (τ 16 0))) hx hb hts hown hK hw ci_M (rf_at hI 0 (by decide) rfl) 16 (by decide) (wm3 88 rfl rfl) rfl d_M_store_208 ?_
                  refine x_iload hx hb d_M_store_211 hl rfl ?_
                  refine x_if_eq hx hb d_M_store_213 rfl (by omega) (fun h213 => ?_) (fun h213 => ?_)
                  · first
                      | exact absurd h213 (by omega)
                      | refine lv_iconst (v := nI 0) hx hb d_M_store_221 (by decide) ?_
                        first | refine x_i2s hx hb d_M_store_222 (by omega) ?_ | refine lv_i2s hx hb d_M_store_222 rfl ?_
                        refine rs_19 hx hb hK hI hB hw (by omega) (by omega) d_M_store_223 (fun H locs hw hB => ?_)
                        first | refine x_aload_n hx hb d_M_store_224 hl rfl ?_ | refine x_aload_nQ hx hb d_M_store_224 hl rfl ?_
                        refine m_get hx hb hts hown hK hw ci_M (rf_at hI 0 (by decide) rfl) 20 (by decide) (wm3 92 rfl rfl) rfl d_M_store_225 ?_
                        first | refine x_aload_n hx hb d_M_store_228 hl rfl ?_ | refine x_aload_nQ hx hb d_M_store_228 hl rfl ?_
                        refine m_get (v := .int (nI (τ 16 0))) hx hb hts hown hK hw ci_M (rf_at hI 0 (by decide) rfl) 16 (by decide) (wm3 88 rfl rfl) rfl d_M_store_229 ?_
                        refine x_iload hx hb d_M_store_232 hl rfl ?_
                        refine x_if_eq hx hb d_M_store_234 rfl (by omega) (fun h234 => ?_) (fun h234 => ?_)
                        · first
                            | exact absurd h234 (by omega)
                            | refine lv_iconst (v := nI 1) hx hb d_M_store_251 (by decide) ?_
                              first | refine x_i2b hx hb d_M_store_252 (by omega) ?_ | refine x_i2b hx hb d_M_store_252 (show _ from hch) ?_
                              first | refine rs_20 hx hb hK hI hB hw (by omega) (by omega) d_M_store_253 (fun H locs hw hB => ?_) | refine rs_20 hx hb hK hI hB hw (by omega) (show _ from hch) d_M_store_253 (fun H locs hw hB => ?_)
                              first | refine x_aload_n hx hb d_M_store_254 hl rfl ?_ | refine x_aload_nQ hx hb d_M_store_254 hl rfl ?_
                              first | refine lv_dup hx hb d_M_store_255 rfl ?_ | refine lv_dup hx hb d_M_store_255 (va_rf_c _) ?_
                              refine m_get (v := .int (nI (τ 16 0))) hx hb hts hown hK hw ci_M (rf_at hI 0 (by decide) rfl) 16 (by decide) (wm3 88 rfl rfl) rfl d_M_store_256 ?_
                              refine lv_iconst (v := nI 1) hx hb d_M_store_259 (by decide) ?_
                              first | refine x_iadd hx hb d_M_store_260 ?_ | refine lv_iadd hx hb d_M_store_260 ?_
                              refine rp_16 hx hb hts hown hK hI hB hw (wm3 88 rfl rfl) (by omega) d_M_store_261 (fun H locs hw hB => ?_)
                              first | refine x_aload_n hx hb d_M_store_264 hl rfl ?_ | refine x_aload_nQ hx hb d_M_store_264 hl rfl ?_
                              refine m_get hx hb hts hown hK hw ci_M (rf_at hI 0 (by decide) rfl) 15 (by decide) (wm3 87 rfl rfl) rfl d_M_store_265 ?_
                              refine x_iload_n hx hb d_M_store_268 hl rfl ?_
                              first | refine x_aload_n hx hb d_M_store_269 hl rfl ?_ | refine x_aload_nQ hx hb d_M_store_269 hl rfl ?_
                              refine m_get (v := .int (nI (τ 16 0 + 1))) hx hb hts hown hK hw ci_M (rf_at hI 0 (by decide) rfl) 16 (by decide) (wm3 88 rfl rfl) rfl d_M_store_270 ?_
                              first | refine x_i2s hx hb d_M_store_273 (by omega) ?_ | refine lv_i2s hx hb d_M_store_273 rfl ?_
                              refine rs_15 hx hb hK hI hB hw (by omega) (by omega) d_M_store_274 (fun H locs hw hB => ?_)
                              exact x_retv hQ hx hb hr hlk hw (by omega) (by omega) d_M_store_275 (by rw [hst2, st2_3 h13 h75, h3f]; exact ⟨rfl, hB⟩)
                        · first
                            | exact absurd h234 (by omega)
                            | first | refine x_aload_n hx hb d_M_store_237 hl rfl ?_ | refine x_aload_nQ hx hb d_M_store_237 hl rfl ?_
                              refine m_get hx hb hts hown hK hw ci_M (rf_at hI 0 (by decide) rfl) 20 (by decide) (wm3 92 rfl rfl) rfl d_M_store_238 ?_
                              refine x_iload hx hb d_M_store_241 hl rfl ?_
                              refine lv_iconst (v := nI 1) hx hb d_M_store_243 (by decide) ?_
                              refine x_isub hx hb d_M_store_244 (by omega) ?_
                              refine rl_20 hx hb hK hI hB hw (by omega) d_M_store_245 (fun hv245 => ?_)
                              refine lv_iconst (v := nI 1) hx hb d_M_store_246 (by decide) ?_
                              first | refine x_iadd hx hb d_M_store_247 ?_ | refine lv_iadd hx hb d_M_store_247 ?_
                              refine lv_goto hx hb d_M_store_248 rfl ?_
                              first | refine x_i2b hx hb d_M_store_252 (by omega) ?_ | refine x_i2b hx hb d_M_store_252 (show _ from hch) ?_
                              first | refine rs_20 hx hb hK hI hB hw (by omega) (by omega) d_M_store_253 (fun H locs hw hB => ?_) | refine rs_20 hx hb hK hI hB hw (by omega) (show _ from hch) d_M_store_253 (fun H locs hw hB => ?_)
                              first | refine x_aload_n hx hb d_M_store_254 hl rfl ?_ | refine x_aload_nQ hx hb d_M_store_254 hl rfl ?_
                              first | refine lv_dup hx hb d_M_store_255 rfl ?_ | refine lv_dup hx hb d_M_store_255 (va_rf_c _) ?_
                              refine m_get (v := .int (nI (τ 16 0))) hx hb hts hown hK hw ci_M (rf_at hI 0 (by decide) rfl) 16 (by decide) (wm3 88 rfl rfl) rfl d_M_store_256 ?_
                              refine lv_iconst (v := nI 1) hx hb d_M_store_259 (by decide) ?_
                              first | refine x_iadd hx hb d_M_store_260 ?_ | refine lv_iadd hx hb d_M_store_260 ?_
                              refine rp_16 hx hb hts hown hK hI hB hw (wm3 88 rfl rfl) (by omega) d_M_store_261 (fun H locs hw hB => ?_)
                              first | refine x_aload_n hx hb d_M_store_264 hl rfl ?_ | refine x_aload_nQ hx hb d_M_store_264 hl rfl ?_
                              refine m_get hx hb hts hown hK hw ci_M (rf_at hI 0 (by decide) rfl) 15 (by decide) (wm3 87 rfl rfl) rfl d_M_store_265 ?_
                              refine x_iload_n hx hb d_M_store_268 hl rfl ?_
                              first | refine x_aload_n hx hb d_M_store_269 hl rfl ?_ | refine x_aload_nQ hx hb d_M_store_269 hl rfl ?_
                              refine m_get (v := .int (nI (τ 16 0 + 1))) hx hb hts hown hK hw ci_M (rf_at hI 0 (by decide) rfl) 16 (by decide) (wm3 88 rfl rfl) rfl d_M_store_270 ?_
                              first | refine x_i2s hx hb d_M_store_273 (by omega) ?_ | refine lv_i2s hx hb d_M_store_273 rfl ?_
                              refine rs_15 hx hb hK hI hB hw (by omega) (by omega) d_M_store_274 (fun H locs hw hB => ?_)
                              exact x_retv hQ hx hb hr hlk hw (by omega) (by omega) d_M_store_275 (by rw [hst2, st2_3 h13 h75, h3f]; exact ⟨rfl, hB⟩)
                  · first
                      | exact absurd h213 (by omega)
                      | refine x_iload hx hb d_M_store_216 hl rfl ?_
                        refine lv_goto hx hb d_M_store_218 rfl ?_
                        first | refine x_i2s hx hb d_M_store_222 (by omega) ?_ | refine lv_i2s hx hb d_M_store_222 rfl ?_
                        refine rs_19 hx hb hK hI hB hw (by omega) (by omega) d_M_store_223 (fun H locs hw hB => ?_)
                        first | refine x_aload_n hx hb d_M_store_224 hl rfl ?_ | refine x_aload_nQ hx hb d_M_store_224 hl rfl ?_
                        refine m_get hx hb hts hown hK hw ci_M (rf_at hI 0 (by decide) rfl) 20 (by decide) (wm3 92 rfl rfl) rfl d_M_store_225 ?_
                        first | refine x_aload_n hx hb d_M_store_228 hl rfl ?_ | refine x_aload_nQ hx hb d_M_store_228 hl rfl ?_
                        refine m_get (v := .int (nI (τ 16 0))) hx hb hts hown hK hw ci_M (rf_at hI 0 (by decide) rfl) 16 (by decide) (wm3 88 rfl rfl) rfl d_M_store_229 ?_
                        refine x_iload hx hb d_M_store_232 hl rfl ?_
                        refine x_if_eq hx hb d_M_store_234 rfl (by omega) (fun h234 => ?_) (fun h234 => ?_)
                        · first
                            | exact absurd h234 (by omega)
                            | refine lv_iconst (v := nI 1) hx hb d_M_store_251 (by decide) ?_
                              first | refine x_i2b hx hb d_M_store_252 (by omega) ?_ | refine x_i2b hx hb d_M_store_252 (show _ from hch) ?_
                              first | refine rs_20 hx hb hK hI hB hw (by omega) (by omega) d_M_store_253 (fun H locs hw hB => ?_) | refine rs_20 hx hb hK hI hB hw (by omega) (show _ from hch) d_M_store_253 (fun H locs hw hB => ?_)
                              first | refine x_aload_n hx hb d_M_store_254 hl rfl ?_ | refine x_aload_nQ hx hb d_M_store_254 hl rfl ?_
                              first | refine lv_dup hx hb d_M_store_255 rfl ?_ | refine lv_dup hx hb d_M_store_255 (va_rf_c _) ?_
                              refine m_get (v := .int (nI (τ 16 0))) hx hb hts hown hK hw ci_M (rf_at hI 0 (by decide) rfl) 16 (by decide) (wm3 88 rfl rfl) rfl d_M_store_256 ?_
                              refine lv_iconst (v := nI 1) hx hb d_M_store_259 (by decide) ?_
                              first | refine x_iadd hx hb d_M_store_260 ?_ | refine lv_iadd hx hb d_M_store_260 ?_
                              refine rp_16 hx hb hts hown hK hI hB hw (wm3 88 rfl rfl) (by omega) d_M_store_261 (fun H locs hw hB => ?_)
                              first | refine x_aload_n hx hb d_M_store_264 hl rfl ?_ | refine x_aload_nQ hx hb d_M_store_264 hl rfl ?_
                              refine m_get hx hb hts hown hK hw ci_M (rf_at hI 0 (by decide) rfl) 15 (by decide) (wm3 87 rfl rfl) rfl d_M_store_265 ?_
                              refine x_iload_n hx hb d_M_store_268 hl rfl ?_
                              first | refine x_aload_n hx hb d_M_store_269 hl rfl ?_ | refine x_aload_nQ hx hb d_M_store_269 hl rfl ?_
                              refine m_get (v := .int (nI (τ 16 0 + 1))) hx hb hts hown hK hw ci_M (rf_at hI 0 (by decide) rfl) 16 (by decide) (wm3 88 rfl rfl) rfl d_M_store_270 ?_
                              first | refine x_i2s hx hb d_M_store_273 (by omega) ?_ | refine lv_i2s hx hb d_M_store_273 rfl ?_
                              refine rs_15 hx hb hK hI hB hw (by omega) (by omega) d_M_store_274 (fun H locs hw hB => ?_)
                              exact x_retv hQ hx hb hr hlk hw (by omega) (by omega) d_M_store_275 (by rw [hst2, st2_3 h13 h75, h3f]; exact ⟨rfl, hB⟩)
                        · first
                            | exact absurd h234 (by omega)
                            | first | refine x_aload_n hx hb d_M_store_237 hl rfl ?_ | refine x_aload_nQ hx hb d_M_store_237 hl rfl ?_
                              refine m_get hx hb hts hown hK hw ci_M (rf_at hI 0 (by decide) rfl) 20 (by decide) (wm3 92 rfl rfl) rfl d_M_store_238 ?_
                              refine x_iload hx hb d_M_store_241 hl rfl ?_
                              refine lv_iconst (v := nI 1) hx hb d_M_store_243 (by decide) ?_
                              refine x_isub hx hb d_M_store_244 (by omega) ?_
                              refine rl_20 hx hb hK hI hB hw (by omega) d_M_store_245 (fun hv245 => ?_)
                              refine lv_iconst (v := nI 1) hx hb d_M_store_246 (by decide) ?_
                              first | refine x_iadd hx hb d_M_store_247 ?_ | refine lv_iadd hx hb d_M_store_247 ?_
                              refine lv_goto hx hb d_M_store_248 rfl ?_
                              first | refine x_i2b hx hb d_M_store_252 (by omega) ?_ | refine x_i2b hx hb d_M_store_252 (show _ from hch) ?_
                              first | refine rs_20 hx hb hK hI hB hw (by omega) (by omega) d_M_store_253 (fun H locs hw hB => ?_) | refine rs_20 hx hb hK hI hB hw (by omega) (show _ from hch) d_M_store_253 (fun H locs hw hB => ?_)
                              first | refine x_aload_n hx hb d_M_store_254 hl rfl ?_ | refine x_aload_nQ hx hb d_M_store_254 hl rfl ?_
                              first | refine lv_dup hx hb d_M_store_255 rfl ?_ | refine lv_dup hx hb d_M_store_255 (va_rf_c _) ?_
                              refine m_get (v := .int (nI (τ 16 0))) hx hb hts hown hK hw ci_M (rf_at hI 0 (by decide) rfl) 16 (by decide) (wm3 88 rfl rfl) rfl d_M_store_256 ?_
                              refine lv_iconst (v := nI 1) hx hb d_M_store_259 (by decide) ?_
                              first | refine x_iadd hx hb d_M_store_260 ?_ | refine lv_iadd hx hb d_M_store_260 ?_
                              refine rp_16 hx hb hts hown hK hI hB hw (wm3 88 rfl rfl) (by omega) d_M_store_261 (fun H locs hw hB => ?_)
                              first | refine x_aload_n hx hb d_M_store_264 hl rfl ?_ | refine x_aload_nQ hx hb d_M_store_264 hl rfl ?_
                              refine m_get hx hb hts hown hK hw ci_M (rf_at hI 0 (by decide) rfl) 15 (by decide) (wm3 87 rfl rfl) rfl d_M_store_265 ?_
                              refine x_iload_n hx hb d_M_store_268 hl rfl ?_
                              first | refine x_aload_n hx hb d_M_store_269 hl rfl ?_ | refine x_aload_nQ hx hb d_M_store_269 hl rfl ?_
                              refine m_get (v := .int (nI (τ 16 0 + 1))) hx hb hts hown hK hw ci_M (rf_at hI 0 (by decide) rfl) 16 (by decide) (wm3 88 rfl rfl) rfl d_M_store_270 ?_
                              first | refine x_i2s hx hb d_M_store_273 (by omega) ?_ | refine lv_i2s hx hb d_M_store_273 rfl ?_
                              refine rs_15 hx hb hK hI hB hw (by omega) (by omega) d_M_store_274 (fun H locs hw hB => ?_)
                              exact x_retv hQ hx hb hr hlk hw (by omega) (by omega) d_M_store_275 (by rw [hst2, st2_3 h13 h75, h3f]; exact ⟨rfl, hB⟩)
                · have h3f := st3_t hof h147 h163
                  have hch : τ 20 (τ 15 a - 1) + 1 < 128 := by omega
                  refine lv_iconst (v := nI 1) hx hb d_M_store_166 (by decide) ?_
                  refine lv_goto hx hb d_M_store_167 rfl ?_
                  refine x_istore hx hb d_M_store_171 hl (Nat.le_of_ble_eq_true rfl) (lh_k (i := 5) rfl (by first | exact lk_n | exact lk_i | exact lk_r | exact lk_q | exact lk_0)) (fun ls hl => ?_)
                  have hS2 := hSn h13
                  first | refine x_aload_n hx hb d_M_store_173 hl rfl ?_ | refine x_aload_nQ hx hb d_M_store_173 hl rfl ?_
                  refine m_get hx hb hts hown hK hw ci_M (rf_at hI 0 (by decide) rfl) 17 (by decide) (wm3 89 rfl rfl) rfl d_M_store_174 ?_
                  first | refine x_aload_n hx hb d_M_store_177 hl rfl ?_ | refine x_aload_nQ hx hb d_M_store_177 hl rfl ?_
                  refine m_get (v := .int (nI (τ 16 0))) hx hb hts hown hK hw ci_M (rf_at hI 0 (by decide) rfl) 16 (by decide) (wm3 88 rfl rfl) rfl d_M_store_178 ?_
                  first | refine x_aload_n hx hb d_M_store_181 hl rfl ?_ | refine x_aload_nQ hx hb d_M_store_181 hl rfl ?_
                  refine m_get hx hb hts hown hK hw ci_M (rf_at hI 0 (by decide) rfl) 9 (by decide) (wm3 81 rfl rfl) rfl d_M_store_182 ?_
                  refine x_iload_n hx hb d_M_store_185 hl rfl ?_
                  refine rl_9 hx hb hK hI hw (by omega) d_M_store_186 ?_
                  refine rs_17 hx hb hK hI hB hw (by omega) d_M_store_187 (fun H locs hw hB => ?_)
                  first | refine x_aload_n hx hb d_M_store_188 hl rfl ?_ | refine x_aload_nQ hx hb d_M_store_188 hl rfl ?_
                  refine m_get hx hb hts hown hK hw ci_M (rf_at hI 0 (by decide) rfl) 18 (by decide) (wm3 90 rfl rfl) rfl d_M_store_189 ?_
                  first | refine x_aload_n hx hb d_M_store_192 hl rfl ?_ | refine x_aload_nQ hx hb d_M_store_192 hl rfl ?_
                  refine m_get (v := .int (nI (τ 16 0))) hx hb hts hown hK hw ci_M (rf_at hI 0 (by decide) rfl) 16 (by decide) (wm3 88 rfl rfl) rfl d_M_store_193 ?_
                  first | refine x_aload_n hx hb d_M_store_196 hl rfl ?_ | refine x_aload_nQ hx hb d_M_store_196 hl rfl ?_
                  refine m_get hx hb hts hown hK hw ci_M (rf_at hI 0 (by decide) rfl) 7 (by decide) (wm3 79 rfl rfl) rfl d_M_store_197 ?_
                  refine x_iload_n hx hb d_M_store_200 hl rfl ?_
                  refine rl_7 hx hb hK hI hB hw (by omega) d_M_store_201 (fun hv201 => ?_)
                  refine rs_18 hx hb hK hI hB hw (by omega) (show _ from h712 n) d_M_store_202 (fun H locs hw hB => ?_)
                  first | refine x_aload_n hx hb d_M_store_203 hl rfl ?_ | refine x_aload_nQ hx hb d_M_store_203 hl rfl ?_
                  refine m_get hx hb hts hown hK hw ci_M (rf_at hI 0 (by decide) rfl) 19 (by decide) (wm3 91 rfl rfl) rfl d_M_store_204 ?_
                  first | refine x_aload_n hx hb d_M_store_207 hl rfl ?_ | refine x_aload_nQ hx hb d_M_store_207 hl rfl ?_
                  refine m_get (v := .int (nI (τ 16 0))) hx hb hts hown hK hw ci_M (rf_at hI 0 (by decide) rfl) 16 (by decide) (wm3 88 rfl rfl) rfl d_M_store_208 ?_
                  refine x_iload hx hb d_M_store_211 hl rfl ?_
                  refine x_if_eq hx hb d_M_store_213 rfl (by omega) (fun h213 => ?_) (fun h213 => ?_)
                  · first
                      | exact absurd h213 (by omega)
                      | refine lv_iconst (v := nI 0) hx hb d_M_store_221 (by decide) ?_
                        first | refine x_i2s hx hb d_M_store_222 (by omega) ?_ | refine lv_i2s hx hb d_M_store_222 rfl ?_
                        refine rs_19 hx hb hK hI hB hw (by omega) (by omega) d_M_store_223 (fun H locs hw hB => ?_)
                        first | refine x_aload_n hx hb d_M_store_224 hl rfl ?_ | refine x_aload_nQ hx hb d_M_store_224 hl rfl ?_
                        refine m_get hx hb hts hown hK hw ci_M (rf_at hI 0 (by decide) rfl) 20 (by decide) (wm3 92 rfl rfl) rfl d_M_store_225 ?_
                        first | refine x_aload_n hx hb d_M_store_228 hl rfl ?_ | refine x_aload_nQ hx hb d_M_store_228 hl rfl ?_
                        refine m_get (v := .int (nI (τ 16 0))) hx hb hts hown hK hw ci_M (rf_at hI 0 (by decide) rfl) 16 (by decide) (wm3 88 rfl rfl) rfl d_M_store_229 ?_
                        refine x_iload hx hb d_M_store_232 hl rfl ?_
                        refine x_if_eq hx hb d_M_store_234 rfl (by omega) (fun h234 => ?_) (fun h234 => ?_)
                        · first
                            | exact absurd h234 (by omega)
                            | refine lv_iconst (v := nI 1) hx hb d_M_store_251 (by decide) ?_
                              first | refine x_i2b hx hb d_M_store_252 (by omega) ?_ | refine x_i2b hx hb d_M_store_252 (show _ from hch) ?_
                              first | refine rs_20 hx hb hK hI hB hw (by omega) (by omega) d_M_store_253 (fun H locs hw hB => ?_) | refine rs_20 hx hb hK hI hB hw (by omega) (show _ from hch) d_M_store_253 (fun H locs hw hB => ?_)
                              first | refine x_aload_n hx hb d_M_store_254 hl rfl ?_ | refine x_aload_nQ hx hb d_M_store_254 hl rfl ?_
                              first | refine lv_dup hx hb d_M_store_255 rfl ?_ | refine lv_dup hx hb d_M_store_255 (va_rf_c _) ?_
                              refine m_get (v := .int (nI (τ 16 0))) hx hb hts hown hK hw ci_M (rf_at hI 0 (by decide) rfl) 16 (by decide) (wm3 88 rfl rfl) rfl d_M_store_256 ?_
                              refine lv_iconst (v := nI 1) hx hb d_M_store_259 (by decide) ?_
                              first | refine x_iadd hx hb d_M_store_260 ?_ | refine lv_iadd hx hb d_M_store_260 ?_
                              refine rp_16 hx hb hts hown hK hI hB hw (wm3 88 rfl rfl) (by omega) d_M_store_261 (fun H locs hw hB => ?_)
                              first | refine x_aload_n hx hb d_M_store_264 hl rfl ?_ | refine x_aload_nQ hx hb d_M_store_264 hl rfl ?_
                              refine m_get hx hb hts hown hK hw ci_M (rf_at hI 0 (by decide) rfl) 15 (by decide) (wm3 87 rfl rfl) rfl d_M_store_265 ?_
                              refine x_iload_n hx hb d_M_store_268 hl rfl ?_
                              first | refine x_aload_n hx hb d_M_store_269 hl rfl ?_ | refine x_aload_nQ hx hb d_M_store_269 hl rfl ?_
                              refine m_get (v := .int (nI (τ 16 0 + 1))) hx hb hts hown hK hw ci_M (rf_at hI 0 (by decide) rfl) 16 (by decide) (wm3 88 rfl rfl) rfl d_M_store_270 ?_
                              first | refine x_i2s hx hb d_M_store_273 (by omega) ?_ | refine lv_i2s hx hb d_M_store_273 rfl ?_
                              refine rs_15 hx hb hK hI hB hw (by omega) (by omega) d_M_store_274 (fun H locs hw hB => ?_)
                              exact x_retv hQ hx hb hr hlk hw (by omega) (by omega) d_M_store_275 (by rw [hst2, st2_3 h13 h75, h3f]; exact ⟨rfl, hB⟩)
                        · first
                            | exact absurd h234 (by omega)
                            | first | refine x_aload_n hx hb d_M_store_237 hl rfl ?_ | refine x_aload_nQ hx hb d_M_store_237 hl rfl ?_
                              refine m_get hx hb hts hown hK hw ci_M (rf_at hI 0 (by decide) rfl) 20 (by decide) (wm3 92 rfl rfl) rfl d_M_store_238 ?_
                              refine x_iload hx hb d_M_store_241 hl rfl ?_
                              refine lv_iconst (v := nI 1) hx hb d_M_store_243 (by decide) ?_
                              refine x_isub hx hb d_M_store_244 (by omega) ?_
                              refine rl_20 hx hb hK hI hB hw (by omega) d_M_store_245 (fun hv245 => ?_)
                              refine lv_iconst (v := nI 1) hx hb d_M_store_246 (by decide) ?_
                              first | refine x_iadd hx hb d_M_store_247 ?_ | refine lv_iadd hx hb d_M_store_247 ?_
                              refine lv_goto hx hb d_M_store_248 rfl ?_
                              first | refine x_i2b hx hb d_M_store_252 (by omega) ?_ | refine x_i2b hx hb d_M_store_252 (show _ from hch) ?_
                              first | refine rs_20 hx hb hK hI hB hw (by omega) (by omega) d_M_store_253 (fun H locs hw hB => ?_) | refine rs_20 hx hb hK hI hB hw (by omega) (show _ from hch) d_M_store_253 (fun H locs hw hB => ?_)
                              first | refine x_aload_n hx hb d_M_store_254 hl rfl ?_ | refine x_aload_nQ hx hb d_M_store_254 hl rfl ?_
                              first | refine lv_dup hx hb d_M_store_255 rfl ?_ | refine lv_dup hx hb d_M_store_255 (va_rf_c _) ?_
                              refine m_get (v := .int (nI (τ 16 0))) hx hb hts hown hK hw ci_M (rf_at hI 0 (by decide) rfl) 16 (by decide) (wm3 88 rfl rfl) rfl d_M_store_256 ?_
                              refine lv_iconst (v := nI 1) hx hb d_M_store_259 (by decide) ?_
                              first | refine x_iadd hx hb d_M_store_260 ?_ | refine lv_iadd hx hb d_M_store_260 ?_
                              refine rp_16 hx hb hts hown hK hI hB hw (wm3 88 rfl rfl) (by omega) d_M_store_261 (fun H locs hw hB => ?_)
                              first | refine x_aload_n hx hb d_M_store_264 hl rfl ?_ | refine x_aload_nQ hx hb d_M_store_264 hl rfl ?_
                              refine m_get hx hb hts hown hK hw ci_M (rf_at hI 0 (by decide) rfl) 15 (by decide) (wm3 87 rfl rfl) rfl d_M_store_265 ?_
                              refine x_iload_n hx hb d_M_store_268 hl rfl ?_
                              first | refine x_aload_n hx hb d_M_store_269 hl rfl ?_ | refine x_aload_nQ hx hb d_M_store_269 hl rfl ?_
                              refine m_get (v := .int (nI (τ 16 0 + 1))) hx hb hts hown hK hw ci_M (rf_at hI 0 (by decide) rfl) 16 (by decide) (wm3 88 rfl rfl) rfl d_M_store_270 ?_
                              first | refine x_i2s hx hb d_M_store_273 (by omega) ?_ | refine lv_i2s hx hb d_M_store_273 rfl ?_
                              refine rs_15 hx hb hK hI hB hw (by omega) (by omega) d_M_store_274 (fun H locs hw hB => ?_)
                              exact x_retv hQ hx hb hr hlk hw (by omega) (by omega) d_M_store_275 (by rw [hst2, st2_3 h13 h75, h3f]; exact ⟨rfl, hB⟩)
                  · first
                      | exact absurd h213 (by omega)
                      | refine x_iload hx hb d_M_store_216 hl rfl ?_
                        refine lv_goto hx hb d_M_store_218 rfl ?_
                        first | refine x_i2s hx hb d_M_store_222 (by omega) ?_ | refine lv_i2s hx hb d_M_store_222 rfl ?_
                        refine rs_19 hx hb hK hI hB hw (by omega) (by omega) d_M_store_223 (fun H locs hw hB => ?_)
                        first | refine x_aload_n hx hb d_M_store_224 hl rfl ?_ | refine x_aload_nQ hx hb d_M_store_224 hl rfl ?_
                        refine m_get hx hb hts hown hK hw ci_M (rf_at hI 0 (by decide) rfl) 20 (by decide) (wm3 92 rfl rfl) rfl d_M_store_225 ?_
                        first | refine x_aload_n hx hb d_M_store_228 hl rfl ?_ | refine x_aload_nQ hx hb d_M_store_228 hl rfl ?_
                        refine m_get (v := .int (nI (τ 16 0))) hx hb hts hown hK hw ci_M (rf_at hI 0 (by decide) rfl) 16 (by decide) (wm3 88 rfl rfl) rfl d_M_store_229 ?_
                        refine x_iload hx hb d_M_store_232 hl rfl ?_
                        refine x_if_eq hx hb d_M_store_234 rfl (by omega) (fun h234 => ?_) (fun h234 => ?_)
                        · first
                            | exact absurd h234 (by omega)
                            | refine lv_iconst (v := nI 1) hx hb d_M_store_251 (by decide) ?_
                              first | refine x_i2b hx hb d_M_store_252 (by omega) ?_ | refine x_i2b hx hb d_M_store_252 (show _ from hch) ?_
                              first | refine rs_20 hx hb hK hI hB hw (by omega) (by omega) d_M_store_253 (fun H locs hw hB => ?_) | refine rs_20 hx hb hK hI hB hw (by omega) (show _ from hch) d_M_store_253 (fun H locs hw hB => ?_)
                              first | refine x_aload_n hx hb d_M_store_254 hl rfl ?_ | refine x_aload_nQ hx hb d_M_store_254 hl rfl ?_
                              first | refine lv_dup hx hb d_M_store_255 rfl ?_ | refine lv_dup hx hb d_M_store_255 (va_rf_c _) ?_
                              refine m_get (v := .int (nI (τ 16 0))) hx hb hts hown hK hw ci_M (rf_at hI 0 (by decide) rfl) 16 (by decide) (wm3 88 rfl rfl) rfl d_M_store_256 ?_
                              refine lv_iconst (v := nI 1) hx hb d_M_store_259 (by decide) ?_
                              first | refine x_iadd hx hb d_M_store_260 ?_ | refine lv_iadd hx hb d_M_store_260 ?_
                              refine rp_16 hx hb hts hown hK hI hB hw (wm3 88 rfl rfl) (by omega) d_M_store_261 (fun H locs hw hB => ?_)
                              first | refine x_aload_n hx hb d_M_store_264 hl rfl ?_ | refine x_aload_nQ hx hb d_M_store_264 hl rfl ?_
                              refine m_get hx hb hts hown hK hw ci_M (rf_at hI 0 (by decide) rfl) 15 (by decide) (wm3 87 rfl rfl) rfl d_M_store_265 ?_
                              refine x_iload_n hx hb d_M_store_268 hl rfl ?_
                              first | refine x_aload_n hx hb d_M_store_269 hl rfl ?_ | refine x_aload_nQ hx hb d_M_store_269 hl rfl ?_
                              refine m_get (v := .int (nI (τ 16 0 + 1))) hx hb hts hown hK hw ci_M (rf_at hI 0 (by decide) rfl) 16 (by decide) (wm3 88 rfl rfl) rfl d_M_store_270 ?_
                              first | refine x_i2s hx hb d_M_store_273 (by omega) ?_ | refine lv_i2s hx hb d_M_store_273 rfl ?_
                              refine rs_15 hx hb hK hI hB hw (by omega) (by omega) d_M_store_274 (fun H locs hw hB => ?_)
                              exact x_retv hQ hx hb hr hlk hw (by omega) (by omega) d_M_store_275 (by rw [hst2, st2_3 h13 h75, h3f]; exact ⟨rfl, hB⟩)
                        · first
                            | exact absurd h234 (by omega)
                            | first | refine x_aload_n hx hb d_M_store_237 hl rfl ?_ | refine x_aload_nQ hx hb d_M_store_237 hl rfl ?_
                              refine m_get hx hb hts hown hK hw ci_M (rf_at hI 0 (by decide) rfl) 20 (by decide) (wm3 92 rfl rfl) rfl d_M_store_238 ?_
                              refine x_iload hx hb d_M_store_241 hl rfl ?_
                              refine lv_iconst (v := nI 1) hx hb d_M_store_243 (by decide) ?_
                              refine x_isub hx hb d_M_store_244 (by omega) ?_
                              refine rl_20 hx hb hK hI hB hw (by omega) d_M_store_245 (fun hv245 => ?_)
                              refine lv_iconst (v := nI 1) hx hb d_M_store_246 (by decide) ?_
                              first | refine x_iadd hx hb d_M_store_247 ?_ | refine lv_iadd hx hb d_M_store_247 ?_
                              refine lv_goto hx hb d_M_store_248 rfl ?_
                              first | refine x_i2b hx hb d_M_store_252 (by omega) ?_ | refine x_i2b hx hb d_M_store_252 (show _ from hch) ?_
                              first | refine rs_20 hx hb hK hI hB hw (by omega) (by omega) d_M_store_253 (fun H locs hw hB => ?_) | refine rs_20 hx hb hK hI hB hw (by omega) (show _ from hch) d_M_store_253 (fun H locs hw hB => ?_)
                              first | refine x_aload_n hx hb d_M_store_254 hl rfl ?_ | refine x_aload_nQ hx hb d_M_store_254 hl rfl ?_
                              first | refine lv_dup hx hb d_M_store_255 rfl ?_ | refine lv_dup hx hb d_M_store_255 (va_rf_c _) ?_
                              refine m_get (v := .int (nI (τ 16 0))) hx hb hts hown hK hw ci_M (rf_at hI 0 (by decide) rfl) 16 (by decide) (wm3 88 rfl rfl) rfl d_M_store_256 ?_
                              refine lv_iconst (v := nI 1) hx hb d_M_store_259 (by decide) ?_
                              first | refine x_iadd hx hb d_M_store_260 ?_ | refine lv_iadd hx hb d_M_store_260 ?_
                              refine rp_16 hx hb hts hown hK hI hB hw (wm3 88 rfl rfl) (by omega) d_M_store_261 (fun H locs hw hB => ?_)
                              first | refine x_aload_n hx hb d_M_store_264 hl rfl ?_ | refine x_aload_nQ hx hb d_M_store_264 hl rfl ?_
                              refine m_get hx hb hts hown hK hw ci_M (rf_at hI 0 (by decide) rfl) 15 (by decide) (wm3 87 rfl rfl) rfl d_M_store_265 ?_
                              refine x_iload_n hx hb d_M_store_268 hl rfl ?_
                              first | refine x_aload_n hx hb d_M_store_269 hl rfl ?_ | refine x_aload_nQ hx hb d_M_store_269 hl rfl ?_
                              refine m_get (v := .int (nI (τ 16 0 + 1))) hx hb hts hown hK hw ci_M (rf_at hI 0 (by decide) rfl) 16 (by decide) (wm3 88 rfl rfl) rfl d_M_store_270 ?_
                              first | refine x_i2s hx hb d_M_store_273 (by omega) ?_ | refine lv_i2s hx hb d_M_store_273 rfl ?_
                              refine rs_15 hx hb hK hI hB hw (by omega) (by omega) d_M_store_274 (fun H locs hw hB => ?_)
                              exact x_retv hQ hx hb hr hlk hw (by omega) (by omega) d_M_store_275 (by rw [hst2, st2_3 h13 h75, h3f]; exact ⟨rfl, hB⟩)
        · refine x_iload_n hx hb d_M_store_128 hl rfl ?_
          refine x_if_le hx hb d_M_store_129 rfl (by omega) (fun h129 => ?_) (fun h129 => ?_)
          · have hof := oldf_0 ha (Or.inr h129)
            refine lv_iconst (v := nI 0) hx hb d_M_store_142 (by decide) ?_
            refine x_istore hx hb d_M_store_143 hl (Nat.le_of_ble_eq_true rfl) (lh_k (i := 4) rfl (by first | exact lk_n | exact lk_i | exact lk_r | exact lk_q | exact lk_0)) (fun ls hl => ?_)
            have hal := alw_le (c := τ 11 n) 20 0
            refine x_iload hx hb d_M_store_145 hl rfl ?_
            refine x_if_le hx hb d_M_store_147 rfl (by omega) (fun h147 => ?_) (fun h147 => ?_)
            · first
                | exact absurd h147 (by omega)
                | have h3f := st3_f hof (Or.inl (by omega))
                  refine lv_iconst (v := nI 0) hx hb d_M_store_170 (by decide) ?_
                  refine x_istore hx hb d_M_store_171 hl (Nat.le_of_ble_eq_true rfl) (lh_k (i := 5) rfl (by first | exact lk_n | exact lk_i | exact lk_r | exact lk_q | exact lk_0)) (fun ls hl => ?_)
                  have hS2 := hSn h13
                  first | refine x_aload_n hx hb d_M_store_173 hl rfl ?_ | refine x_aload_nQ hx hb d_M_store_173 hl rfl ?_
                  refine m_get hx hb hts hown hK hw ci_M (rf_at hI 0 (by decide) rfl) 17 (by decide) (wm3 89 rfl rfl) rfl d_M_store_174 ?_
                  first | refine x_aload_n hx hb d_M_store_177 hl rfl ?_ | refine x_aload_nQ hx hb d_M_store_177 hl rfl ?_
                  refine m_get (v := .int (nI (τ 16 0))) hx hb hts hown hK hw ci_M (rf_at hI 0 (by decide) rfl) 16 (by decide) (wm3 88 rfl rfl) rfl d_M_store_178 ?_
                  first | refine x_aload_n hx hb d_M_store_181 hl rfl ?_ | refine x_aload_nQ hx hb d_M_store_181 hl rfl ?_
                  refine m_get hx hb hts hown hK hw ci_M (rf_at hI 0 (by decide) rfl) 9 (by decide) (wm3 81 rfl rfl) rfl d_M_store_182 ?_
                  refine x_iload_n hx hb d_M_store_185 hl rfl ?_
                  refine rl_9 hx hb hK hI hw (by omega) d_M_store_186 ?_
                  refine rs_17 hx hb hK hI hB hw (by omega) d_M_store_187 (fun H locs hw hB => ?_)
                  first | refine x_aload_n hx hb d_M_store_188 hl rfl ?_ | refine x_aload_nQ hx hb d_M_store_188 hl rfl ?_
                  refine m_get hx hb hts hown hK hw ci_M (rf_at hI 0 (by decide) rfl) 18 (by decide) (wm3 90 rfl rfl) rfl d_M_store_189 ?_
                  first | refine x_aload_n hx hb d_M_store_192 hl rfl ?_ | refine x_aload_nQ hx hb d_M_store_192 hl rfl ?_
                  refine m_get (v := .int (nI (τ 16 0))) hx hb hts hown hK hw ci_M (rf_at hI 0 (by decide) rfl) 16 (by decide) (wm3 88 rfl rfl) rfl d_M_store_193 ?_
                  first | refine x_aload_n hx hb d_M_store_196 hl rfl ?_ | refine x_aload_nQ hx hb d_M_store_196 hl rfl ?_
                  refine m_get hx hb hts hown hK hw ci_M (rf_at hI 0 (by decide) rfl) 7 (by decide) (wm3 79 rfl rfl) rfl d_M_store_197 ?_
                  refine x_iload_n hx hb d_M_store_200 hl rfl ?_
                  refine rl_7 hx hb hK hI hB hw (by omega) d_M_store_201 (fun hv201 => ?_)
                  refine rs_18 hx hb hK hI hB hw (by omega) (show _ from h712 n) d_M_store_202 (fun H locs hw hB => ?_)
                  first | refine x_aload_n hx hb d_M_store_203 hl rfl ?_ | refine x_aload_nQ hx hb d_M_store_203 hl rfl ?_
                  refine m_get hx hb hts hown hK hw ci_M (rf_at hI 0 (by decide) rfl) 19 (by decide) (wm3 91 rfl rfl) rfl d_M_store_204 ?_
                  first | refine x_aload_n hx hb d_M_store_207 hl rfl ?_ | refine x_aload_nQ hx hb d_M_store_207 hl rfl ?_
                  refine m_get (v := .int (nI (τ 16 0))) hx hb hts hown hK hw ci_M (rf_at hI 0 (by decide) rfl) 16 (by decide) (wm3 88 rfl rfl) rfl d_M_store_208 ?_
                  refine x_iload hx hb d_M_store_211 hl rfl ?_
                  refine x_if_eq hx hb d_M_store_213 rfl (by omega) (fun h213 => ?_) (fun h213 => ?_)
                  · first
                      | exact absurd h213 (by omega)
                      | refine lv_iconst (v := nI 0) hx hb d_M_store_221 (by decide) ?_
                        first | refine x_i2s hx hb d_M_store_222 (by omega) ?_ | refine lv_i2s hx hb d_M_store_222 rfl ?_
                        refine rs_19 hx hb hK hI hB hw (by omega) (by omega) d_M_store_223 (fun H locs hw hB => ?_)
                        first | refine x_aload_n hx hb d_M_store_224 hl rfl ?_ | refine x_aload_nQ hx hb d_M_store_224 hl rfl ?_
                        refine m_get hx hb hts hown hK hw ci_M (rf_at hI 0 (by decide) rfl) 20 (by decide) (wm3 92 rfl rfl) rfl d_M_store_225 ?_
                        first | refine x_aload_n hx hb d_M_store_228 hl rfl ?_ | refine x_aload_nQ hx hb d_M_store_228 hl rfl ?_
                        refine m_get (v := .int (nI (τ 16 0))) hx hb hts hown hK hw ci_M (rf_at hI 0 (by decide) rfl) 16 (by decide) (wm3 88 rfl rfl) rfl d_M_store_229 ?_
                        refine x_iload hx hb d_M_store_232 hl rfl ?_
                        refine x_if_eq hx hb d_M_store_234 rfl (by omega) (fun h234 => ?_) (fun h234 => ?_)
                        · first
                            | exact absurd h234 (by omega)
                            | refine lv_iconst (v := nI 1) hx hb d_M_store_251 (by decide) ?_
                              first | refine x_i2b hx hb d_M_store_252 (by omega) ?_ | refine x_i2b hx hb d_M_store_252 (show _ from hch) ?_
                              first | refine rs_20 hx hb hK hI hB hw (by omega) (by omega) d_M_store_253 (fun H locs hw hB => ?_) | refine rs_20 hx hb hK hI hB hw (by omega) (show _ from hch) d_M_store_253 (fun H locs hw hB => ?_)
                              first | refine x_aload_n hx hb d_M_store_254 hl rfl ?_ | refine x_aload_nQ hx hb d_M_store_254 hl rfl ?_
                              first | refine lv_dup hx hb d_M_store_255 rfl ?_ | refine lv_dup hx hb d_M_store_255 (va_rf_c _) ?_
                              refine m_get (v := .int (nI (τ 16 0))) hx hb hts hown hK hw ci_M (rf_at hI 0 (by decide) rfl) 16 (by decide) (wm3 88 rfl rfl) rfl d_M_store_256 ?_
                              refine lv_iconst (v := nI 1) hx hb d_M_store_259 (by decide) ?_
                              first | refine x_iadd hx hb d_M_store_260 ?_ | refine lv_iadd hx hb d_M_store_260 ?_
                              refine rp_16 hx hb hts hown hK hI hB hw (wm3 88 rfl rfl) (by omega) d_M_store_261 (fun H locs hw hB => ?_)
                              first | refine x_aload_n hx hb d_M_store_264 hl rfl ?_ | refine x_aload_nQ hx hb d_M_store_264 hl rfl ?_
                              refine m_get hx hb hts hown hK hw ci_M (rf_at hI 0 (by decide) rfl) 15 (by decide) (wm3 87 rfl rfl) rfl d_M_store_265 ?_
                              refine x_iload_n hx hb d_M_store_268 hl rfl ?_
                              first | refine x_aload_n hx hb d_M_store_269 hl rfl ?_ | refine x_aload_nQ hx hb d_M_store_269 hl rfl ?_
                              refine m_get (v := .int (nI (τ 16 0 + 1))) hx hb hts hown hK hw ci_M (rf_at hI 0 (by decide) rfl) 16 (by decide) (wm3 88 rfl rfl) rfl d_M_store_270 ?_
                              first | refine x_i2s hx hb d_M_store_273 (by omega) ?_ | refine lv_i2s hx hb d_M_store_273 rfl ?_
                              refine rs_15 hx hb hK hI hB hw (by omega) (by omega) d_M_store_274 (fun H locs hw hB => ?_)
                              exact x_retv hQ hx hb hr hlk hw (by omega) (by omega) d_M_store_275 (by rw [hst2, st2_3 h13 h75, h3f]; exact ⟨rfl, hB⟩)
                        · first
                            | exact absurd h234 (by omega)
                            | first | refine x_aload_n hx hb d_M_store_237 hl rfl ?_ | refine x_aload_nQ hx hb d_M_store_237 hl rfl ?_
                              refine m_get hx hb hts hown hK hw ci_M (rf_at hI 0 (by decide) rfl) 20 (by decide) (wm3 92 rfl rfl) rfl d_M_store_238 ?_
                              refine x_iload hx hb d_M_store_241 hl rfl ?_
                              refine lv_iconst (v := nI 1) hx hb d_M_store_243 (by decide) ?_
                              refine x_isub hx hb d_M_store_244 (by omega) ?_
                              refine rl_20 hx hb hK hI hB hw (by omega) d_M_store_245 (fun hv245 => ?_)
                              refine lv_iconst (v := nI 1) hx hb d_M_store_246 (by decide) ?_
                              first | refine x_iadd hx hb d_M_store_247 ?_ | refine lv_iadd hx hb d_M_store_247 ?_
                              refine lv_goto hx hb d_M_store_248 rfl ?_
                              first | refine x_i2b hx hb d_M_store_252 (by omega) ?_ | refine x_i2b hx hb d_M_store_252 (show _ from hch) ?_
                              first | refine rs_20 hx hb hK hI hB hw (by omega) (by omega) d_M_store_253 (fun H locs hw hB => ?_) | refine rs_20 hx hb hK hI hB hw (by omega) (show _ from hch) d_M_store_253 (fun H locs hw hB => ?_)
                              first | refine x_aload_n hx hb d_M_store_254 hl rfl ?_ | refine x_aload_nQ hx hb d_M_store_254 hl rfl ?_
                              first | refine lv_dup hx hb d_M_store_255 rfl ?_ | refine lv_dup hx hb d_M_store_255 (va_rf_c _) ?_
                              refine m_get (v := .int (nI (τ 16 0))) hx hb hts hown hK hw ci_M (rf_at hI 0 (by decide) rfl) 16 (by decide) (wm3 88 rfl rfl) rfl d_M_store_256 ?_
                              refine lv_iconst (v := nI 1) hx hb d_M_store_259 (by decide) ?_
                              first | refine x_iadd hx hb d_M_store_260 ?_ | refine lv_iadd hx hb d_M_store_260 ?_
                              refine rp_16 hx hb hts hown hK hI hB hw (wm3 88 rfl rfl) (by omega) d_M_store_261 (fun H locs hw hB => ?_)
                              first | refine x_aload_n hx hb d_M_store_264 hl rfl ?_ | refine x_aload_nQ hx hb d_M_store_264 hl rfl ?_
                              refine m_get hx hb hts hown hK hw ci_M (rf_at hI 0 (by decide) rfl) 15 (by decide) (wm3 87 rfl rfl) rfl d_M_store_265 ?_
                              refine x_iload_n hx hb d_M_store_268 hl rfl ?_
                              first | refine x_aload_n hx hb d_M_store_269 hl rfl ?_ | refine x_aload_nQ hx hb d_M_store_269 hl rfl ?_
                              refine m_get (v := .int (nI (τ 16 0 + 1))) hx hb hts hown hK hw ci_M (rf_at hI 0 (by decide) rfl) 16 (by decide) (wm3 88 rfl rfl) rfl d_M_store_270 ?_
                              first | refine x_i2s hx hb d_M_store_273 (by omega) ?_ | refine lv_i2s hx hb d_M_store_273 rfl ?_
                              refine rs_15 hx hb hK hI hB hw (by omega) (by omega) d_M_store_274 (fun H locs hw hB => ?_)
                              exact x_retv hQ hx hb hr hlk hw (by omega) (by omega) d_M_store_275 (by rw [hst2, st2_3 h13 h75, h3f]; exact ⟨rfl, hB⟩)
                  · first
                      | exact absurd h213 (by omega)
                      | refine x_iload hx hb d_M_store_216 hl rfl ?_
                        refine lv_goto hx hb d_M_store_218 rfl ?_
                        first | refine x_i2s hx hb d_M_store_222 (by omega) ?_ | refine lv_i2s hx hb d_M_store_222 rfl ?_
                        refine rs_19 hx hb hK hI hB hw (by omega) (by omega) d_M_store_223 (fun H locs hw hB => ?_)
                        first | refine x_aload_n hx hb d_M_store_224 hl rfl ?_ | refine x_aload_nQ hx hb d_M_store_224 hl rfl ?_
                        refine m_get hx hb hts hown hK hw ci_M (rf_at hI 0 (by decide) rfl) 20 (by decide) (wm3 92 rfl rfl) rfl d_M_store_225 ?_
                        first | refine x_aload_n hx hb d_M_store_228 hl rfl ?_ | refine x_aload_nQ hx hb d_M_store_228 hl rfl ?_
                        refine m_get (v := .int (nI (τ 16 0))) hx hb hts hown hK hw ci_M (rf_at hI 0 (by decide) rfl) 16 (by decide) (wm3 88 rfl rfl) rfl d_M_store_229 ?_
                        refine x_iload hx hb d_M_store_232 hl rfl ?_
                        refine x_if_eq hx hb d_M_store_234 rfl (by omega) (fun h234 => ?_) (fun h234 => ?_)
                        · first
                            | exact absurd h234 (by omega)
                            | refine lv_iconst (v := nI 1) hx hb d_M_store_251 (by decide) ?_
                              first | refine x_i2b hx hb d_M_store_252 (by omega) ?_ | refine x_i2b hx hb d_M_store_252 (show _ from hch) ?_
                              first | refine rs_20 hx hb hK hI hB hw (by omega) (by omega) d_M_store_253 (fun H locs hw hB => ?_) | refine rs_20 hx hb hK hI hB hw (by omega) (show _ from hch) d_M_store_253 (fun H locs hw hB => ?_)
                              first | refine x_aload_n hx hb d_M_store_254 hl rfl ?_ | refine x_aload_nQ hx hb d_M_store_254 hl rfl ?_
                              first | refine lv_dup hx hb d_M_store_255 rfl ?_ | refine lv_dup hx hb d_M_store_255 (va_rf_c _) ?_
                              refine m_get (v := .int (nI (τ 16 0))) hx hb hts hown hK hw ci_M (rf_at hI 0 (by decide) rfl) 16 (by decide) (wm3 88 rfl rfl) rfl d_M_store_256 ?_
                              refine lv_iconst (v := nI 1) hx hb d_M_store_259 (by decide) ?_
                              first | refine x_iadd hx hb d_M_store_260 ?_ | refine lv_iadd hx hb d_M_store_260 ?_
                              refine rp_16 hx hb hts hown hK hI hB hw (wm3 88 rfl rfl) (by omega) d_M_store_261 (fun H locs hw hB => ?_)
                              first | refine x_aload_n hx hb d_M_store_264 hl rfl ?_ | refine x_aload_nQ hx hb d_M_store_264 hl rfl ?_
                              refine m_get hx hb hts hown hK hw ci_M (rf_at hI 0 (by decide) rfl) 15 (by decide) (wm3 87 rfl rfl) rfl d_M_store_265 ?_
                              refine x_iload_n hx hb d_M_store_268 hl rfl ?_
                              first | refine x_aload_n hx hb d_M_store_269 hl rfl ?_ | refine x_aload_nQ hx hb d_M_store_269 hl rfl ?_
                              refine m_get (v := .int (nI (τ 16 0 + 1))) hx hb hts hown hK hw ci_M (rf_at hI 0 (by decide) rfl) 16 (by decide) (wm3 88 rfl rfl) rfl d_M_store_270 ?_
                              first | refine x_i2s hx hb d_M_store_273 (by omega) ?_ | refine lv_i2s hx hb d_M_store_273 rfl ?_
                              refine rs_15 hx hb hK hI hB hw (by omega) (by omega) d_M_store_274 (fun H locs hw hB => ?_)
                              exact x_retv hQ hx hb hr hlk hw (by omega) (by omega) d_M_store_275 (by rw [hst2, st2_3 h13 h75, h3f]; exact ⟨rfl, hB⟩)
                        · first
                            | exact absurd h234 (by omega)
                            | first | refine x_aload_n hx hb d_M_store_237 hl rfl ?_ | refine x_aload_nQ hx hb d_M_store_237 hl rfl ?_
                              refine m_get hx hb hts hown hK hw ci_M (rf_at hI 0 (by decide) rfl) 20 (by decide) (wm3 92 rfl rfl) rfl d_M_store_238 ?_
                              refine x_iload hx hb d_M_store_241 hl rfl ?_
                              refine lv_iconst (v := nI 1) hx hb d_M_store_243 (by decide) ?_
                              refine x_isub hx hb d_M_store_244 (by omega) ?_
                              refine rl_20 hx hb hK hI hB hw (by omega) d_M_store_245 (fun hv245 => ?_)
                              refine lv_iconst (v := nI 1) hx hb d_M_store_246 (by decide) ?_
                              first | refine x_iadd hx hb d_M_store_247 ?_ | refine lv_iadd hx hb d_M_store_247 ?_
                              refine lv_goto hx hb d_M_store_248 rfl ?_
                              first | refine x_i2b hx hb d_M_store_252 (by omega) ?_ | refine x_i2b hx hb d_M_store_252 (show _ from hch) ?_
                              first | refine rs_20 hx hb hK hI hB hw (by omega) (by omega) d_M_store_253 (fun H locs hw hB => ?_) | refine rs_20 hx hb hK hI hB hw (by omega) (show _ from hch) d_M_store_253 (fun H locs hw hB => ?_)
                              first | refine x_aload_n hx hb d_M_store_254 hl rfl ?_ | refine x_aload_nQ hx hb d_M_store_254 hl rfl ?_
                              first | refine lv_dup hx hb d_M_store_255 rfl ?_ | refine lv_dup hx hb d_M_store_255 (va_rf_c _) ?_
                              refine m_get (v := .int (nI (τ 16 0))) hx hb hts hown hK hw ci_M (rf_at hI 0 (by decide) rfl) 16 (by decide) (wm3 88 rfl rfl) rfl d_M_store_256 ?_
                              refine lv_iconst (v := nI 1) hx hb d_M_store_259 (by decide) ?_
                              first | refine x_iadd hx hb d_M_store_260 ?_ | refine lv_iadd hx hb d_M_store_260 ?_
                              refine rp_16 hx hb hts hown hK hI hB hw (wm3 88 rfl rfl) (by omega) d_M_store_261 (fun H locs hw hB => ?_)
                              first | refine x_aload_n hx hb d_M_store_264 hl rfl ?_ | refine x_aload_nQ hx hb d_M_store_264 hl rfl ?_
                              refine m_get hx hb hts hown hK hw ci_M (rf_at hI 0 (by decide) rfl) 15 (by decide) (wm3 87 rfl rfl) rfl d_M_store_265 ?_
                              refine x_iload_n hx hb d_M_store_268 hl rfl ?_
                              first | refine x_aload_n hx hb d_M_store_269 hl rfl ?_ | refine x_aload_nQ hx hb d_M_store_269 hl rfl ?_
                              refine m_get (v := .int (nI (τ 16 0 + 1))) hx hb hts hown hK hw ci_M (rf_at hI 0 (by decide) rfl) 16 (by decide) (wm3 88 rfl rfl) rfl d_M_store_270 ?_
                              first | refine x_i2s hx hb d_M_store_273 (by omega) ?_ | refine lv_i2s hx hb d_M_store_273 rfl ?_
                              refine rs_15 hx hb hK hI hB hw (by omega) (by omega) d_M_store_274 (fun H locs hw hB => ?_)
                              exact x_retv hQ hx hb hr hlk hw (by omega) (by omega) d_M_store_275 (by rw [hst2, st2_3 h13 h75, h3f]; exact ⟨rfl, hB⟩)
            · first
                | exact absurd h147 (by omega)
                | first | refine x_aload_n hx hb d_M_store_150 hl rfl ?_ | refine x_aload_nQ hx hb d_M_store_150 hl rfl ?_
                  refine m_get hx hb hts hown hK hw ci_M (rf_at hI 0 (by decide) rfl) 20 (by decide) (wm3 92 rfl rfl) rfl d_M_store_151 ?_
                  refine x_iload hx hb d_M_store_154 hl rfl ?_
                  refine lv_iconst (v := nI 1) hx hb d_M_store_156 (by decide) ?_
                  refine x_isub hx hb d_M_store_157 (by omega) ?_
                  refine rl_20 hx hb hK hI hB hw (by omega) d_M_store_158 (fun hv158 => ?_)
                  refine x_iload_n hx hb d_M_store_159 hl rfl ?_
                  refine m_calli (k_S ⟨hx, hb, hml, hown, hts⟩ hE hA hw (c_M_allowed (by omega)) (wm3 235 rfl rfl) (wm3 236 rfl rfl) (wm1 9 rfl rfl) (wm3 237 rfl rfl) rfl rfl ar_M_allowed ⟨Nat.le_trans (Nat.le_of_ble_eq_true rfl) hR.1, Nat.le_trans (Nat.le_of_ble_eq_true rfl) hR.2.1⟩ rfl hl.1 rfl (Nat.le_of_ble_eq_true rfl) d_M_store_160 ⟨Nat.le_trans (Nat.le_of_ble_eq_true rfl) hR.2.2.1, Nat.le_trans (Nat.le_of_ble_eq_true rfl) hR.2.2.2⟩) hw (mfr_in hw hA) (fun r160 M160 H locs hP160 hw => ?_)
                  obtain ⟨rfl, hM160⟩ := hP160
                  rw [hM160] at hw
                  refine x_icmp_ge hx hb d_M_store_163 rfl (by omega) (by omega) (fun h163 => ?_) (fun h163 => ?_)
                  · have h3f := st3_f hof (Or.inr h163)
                    refine lv_iconst (v := nI 0) hx hb d_M_store_170 (by decide) ?_
                    refine x_istore hx hb d_M_store_171 hl (Nat.le_of_ble_eq_true rfl) (lh_k (i := 5) rfl (by first | exact lk_n | exact lk_i | exact lk_r | exact lk_q | exact lk_0)) (fun ls hl => ?_)
                    have hS2 := hSn h13
                    first | refine x_aload_n hx hb d_M_store_173 hl rfl ?_ | refine x_aload_nQ hx hb d_M_store_173 hl rfl ?_
                    refine m_get hx hb hts hown hK hw ci_M (rf_at hI 0 (by decide) rfl) 17 (by decide) (wm3 89 rfl rfl) rfl d_M_store_174 ?_
                    first | refine x_aload_n hx hb d_M_store_177 hl rfl ?_ | refine x_aload_nQ hx hb d_M_store_177 hl rfl ?_
                    refine m_get (v := .int (nI (τ 16 0))) hx hb hts hown hK hw ci_M (rf_at hI 0 (by decide) rfl) 16 (by decide) (wm3 88 rfl rfl) rfl d_M_store_178 ?_
                    first | refine x_aload_n hx hb d_M_store_181 hl rfl ?_ | refine x_aload_nQ hx hb d_M_store_181 hl rfl ?_
                    refine m_get hx hb hts hown hK hw ci_M (rf_at hI 0 (by decide) rfl) 9 (by decide) (wm3 81 rfl rfl) rfl d_M_store_182 ?_
                    refine x_iload_n hx hb d_M_store_185 hl rfl ?_
                    refine rl_9 hx hb hK hI hw (by omega) d_M_store_186 ?_
                    refine rs_17 hx hb hK hI hB hw (by omega) d_M_store_187 (fun H locs hw hB => ?_)
                    first | refine x_aload_n hx hb d_M_store_188 hl rfl ?_ | refine x_aload_nQ hx hb d_M_store_188 hl rfl ?_
                    refine m_get hx hb hts hown hK hw ci_M (rf_at hI 0 (by decide) rfl) 18 (by decide) (wm3 90 rfl rfl) rfl d_M_store_189 ?_
                    first | refine x_aload_n hx hb d_M_store_192 hl rfl ?_ | refine x_aload_nQ hx hb d_M_store_192 hl rfl ?_
                    refine m_get (v := .int (nI (τ 16 0))) hx hb hts hown hK hw ci_M (rf_at hI 0 (by decide) rfl) 16 (by decide) (wm3 88 rfl rfl) rfl d_M_store_193 ?_
                    first | refine x_aload_n hx hb d_M_store_196 hl rfl ?_ | refine x_aload_nQ hx hb d_M_store_196 hl rfl ?_
                    refine m_get hx hb hts hown hK hw ci_M (rf_at hI 0 (by decide) rfl) 7 (by decide) (wm3 79 rfl rfl) rfl d_M_store_197 ?_
                    refine x_iload_n hx hb d_M_store_200 hl rfl ?_
                    refine rl_7 hx hb hK hI hB hw (by omega) d_M_store_201 (fun hv201 => ?_)
                    refine rs_18 hx hb hK hI hB hw (by omega) (show _ from h712 n) d_M_store_202 (fun H locs hw hB => ?_)
                    first | refine x_aload_n hx hb d_M_store_203 hl rfl ?_ | refine x_aload_nQ hx hb d_M_store_203 hl rfl ?_
                    refine m_get hx hb hts hown hK hw ci_M (rf_at hI 0 (by decide) rfl) 19 (by decide) (wm3 91 rfl rfl) rfl d_M_store_204 ?_
                    first | refine x_aload_n hx hb d_M_store_207 hl rfl ?_ | refine x_aload_nQ hx hb d_M_store_207 hl rfl ?_
                    refine m_get (v := .int (nI (τ 16 0))) hx hb hts hown hK hw ci_M (rf_at hI 0 (by decide) rfl) 16 (by decide) (wm3 88 rfl rfl) rfl d_M_store_208 ?_
                    refine x_iload hx hb d_M_store_211 hl rfl ?_
                    refine x_if_eq hx hb d_M_store_213 rfl (by omega) (fun h213 => ?_) (fun h213 => ?_)
                    · first
                        | exact absurd h213 (by omega)
                        | refine lv_iconst (v := nI 0) hx hb d_M_store_221 (by decide) ?_
                          first | refine x_i2s hx hb d_M_store_222 (by omega) ?_ | refine lv_i2s hx hb d_M_store_222 rfl ?_
                          refine rs_19 hx hb hK hI hB hw (by omega) (by omega) d_M_store_223 (fun H locs hw hB => ?_)
                          first | refine x_aload_n hx hb d_M_store_224 hl rfl ?_ | refine x_aload_nQ hx hb d_M_store_224 hl rfl ?_
                          refine m_get hx hb hts hown hK hw ci_M (rf_at hI 0 (by decide) rfl) 20 (by decide) (wm3 92 rfl rfl) rfl d_M_store_225 ?_
                          first | refine x_aload_n hx hb d_M_store_228 hl rfl ?_ | refine x_aload_nQ hx hb d_M_store_228 hl rfl ?_
                          refine m_get (v := .int (nI (τ 16 0))) hx hb hts hown hK hw ci_M (rf_at hI 0 (by decide) rfl) 16 (by decide) (wm3 88 rfl rfl) rfl d_M_store_229 ?_
                          refine x_iload hx hb d_M_store_232 hl rfl ?_
                          refine x_if_eq hx hb d_M_store_234 rfl (by omega) (fun h234 => ?_) (fun h234 => ?_)
                          · first
                              | exact absurd h234 (by omega)
                              | refine lv_iconst (v := nI 1) hx hb d_M_store_251 (by decide) ?_
                                first | refine x_i2b hx hb d_M_store_252 (by omega) ?_ | refine x_i2b hx hb d_M_store_252 (show _ from hch) ?_
                                first | refine rs_20 hx hb hK hI hB hw (by omega) (by omega) d_M_store_253 (fun H locs hw hB => ?_) | refine rs_20 hx hb hK hI hB hw (by omega) (show _ from hch) d_M_store_253 (fun H locs hw hB => ?_)
                                first | refine x_aload_n hx hb d_M_store_254 hl rfl ?_ | refine x_aload_nQ hx hb d_M_store_254 hl rfl ?_
                                first | refine lv_dup hx hb d_M_store_255 rfl ?_ | refine lv_dup hx hb d_M_store_255 (va_rf_c _) ?_
                                refine m_get (v := .int (nI (τ 16 0))) hx hb hts hown hK hw ci_M (rf_at hI 0 (by decide) rfl) 16 (by decide) (wm3 88 rfl rfl) rfl d_M_store_256 ?_
                                refine lv_iconst (v := nI 1) hx hb d_M_store_259 (by decide) ?_
                                first | refine x_iadd hx hb d_M_store_260 ?_ | refine lv_iadd hx hb d_M_store_260 ?_
                                refine rp_16 hx hb hts hown hK hI hB hw (wm3 88 rfl rfl) (by omega) d_M_store_261 (fun H locs hw hB => ?_)
                                first | refine x_aload_n hx hb d_M_store_264 hl rfl ?_ | refine x_aload_nQ hx hb d_M_store_264 hl rfl ?_
                                refine m_get hx hb hts hown hK hw ci_M (rf_at hI 0 (by decide) rfl) 15 (by decide) (wm3 87 rfl rfl) rfl d_M_store_265 ?_
                                refine x_iload_n hx hb d_M_store_268 hl rfl ?_
                                first | refine x_aload_n hx hb d_M_store_269 hl rfl ?_ | refine x_aload_nQ hx hb d_M_store_269 hl rfl ?_
                                refine m_get (v := .int (nI (τ 16 0 + 1))) hx hb hts hown hK hw ci_M (rf_at hI 0 (by decide) rfl) 16 (by decide) (wm3 88 rfl rfl) rfl d_M_store_270 ?_
                                first | refine x_i2s hx hb d_M_store_273 (by omega) ?_ | refine lv_i2s hx hb d_M_store_273 rfl ?_
                                refine rs_15 hx hb hK hI hB hw (by omega) (by omega) d_M_store_274 (fun H locs hw hB => ?_)
                                exact x_retv hQ hx hb hr hlk hw (by omega) (by omega) d_M_store_275 (by rw [hst2, st2_3 h13 h75, h3f]; exact ⟨rfl, hB⟩)
                          · first
                              | exact absurd h234 (by omega)
                              | first | refine x_aload_n hx hb d_M_store_237 hl rfl ?_ | refine x_aload_nQ hx hb d_M_store_237 hl rfl ?_
                                refine m_get hx hb hts hown hK hw ci_M (rf_at hI 0 (by decide) rfl) 20 (by decide) (wm3 92 rfl rfl) rfl d_M_store_238 ?_
                                refine x_iload hx hb d_M_store_241 hl rfl ?_
                                refine lv_iconst (v := nI 1) hx hb d_M_store_243 (by decide) ?_
                                refine x_isub hx hb d_M_store_244 (by omega) ?_
                                refine rl_20 hx hb hK hI hB hw (by omega) d_M_store_245 (fun hv245 => ?_)
                                refine lv_iconst (v := nI 1) hx hb d_M_store_246 (by decide) ?_
                                first | refine x_iadd hx hb d_M_store_247 ?_ | refine lv_iadd hx hb d_M_store_247 ?_
                                refine lv_goto hx hb d_M_store_248 rfl ?_
                                first | refine x_i2b hx hb d_M_store_252 (by omega) ?_ | refine x_i2b hx hb d_M_store_252 (show _ from hch) ?_
                                first | refine rs_20 hx hb hK hI hB hw (by omega) (by omega) d_M_store_253 (fun H locs hw hB => ?_) | refine rs_20 hx hb hK hI hB hw (by omega) (show _ from hch) d_M_store_253 (fun H locs hw hB => ?_)
                                first | refine x_aload_n hx hb d_M_store_254 hl rfl ?_ | refine x_aload_nQ hx hb d_M_store_254 hl rfl ?_
                                first | refine lv_dup hx hb d_M_store_255 rfl ?_ | refine lv_dup hx hb d_M_store_255 (va_rf_c _) ?_
                                refine m_get (v := .int (nI (τ 16 0))) hx hb hts hown hK hw ci_M (rf_at hI 0 (by decide) rfl) 16 (by decide) (wm3 88 rfl rfl) rfl d_M_store_256 ?_
                                refine lv_iconst (v := nI 1) hx hb d_M_store_259 (by decide) ?_
                                first | refine x_iadd hx hb d_M_store_260 ?_ | refine lv_iadd hx hb d_M_store_260 ?_
                                refine rp_16 hx hb hts hown hK hI hB hw (wm3 88 rfl rfl) (by omega) d_M_store_261 (fun H locs hw hB => ?_)
                                first | refine x_aload_n hx hb d_M_store_264 hl rfl ?_ | refine x_aload_nQ hx hb d_M_store_264 hl rfl ?_
                                refine m_get hx hb hts hown hK hw ci_M (rf_at hI 0 (by decide) rfl) 15 (by decide) (wm3 87 rfl rfl) rfl d_M_store_265 ?_
                                refine x_iload_n hx hb d_M_store_268 hl rfl ?_
                                first | refine x_aload_n hx hb d_M_store_269 hl rfl ?_ | refine x_aload_nQ hx hb d_M_store_269 hl rfl ?_
                                refine m_get (v := .int (nI (τ 16 0 + 1))) hx hb hts hown hK hw ci_M (rf_at hI 0 (by decide) rfl) 16 (by decide) (wm3 88 rfl rfl) rfl d_M_store_270 ?_
                                first | refine x_i2s hx hb d_M_store_273 (by omega) ?_ | refine lv_i2s hx hb d_M_store_273 rfl ?_
                                refine rs_15 hx hb hK hI hB hw (by omega) (by omega) d_M_store_274 (fun H locs hw hB => ?_)
                                exact x_retv hQ hx hb hr hlk hw (by omega) (by omega) d_M_store_275 (by rw [hst2, st2_3 h13 h75, h3f]; exact ⟨rfl, hB⟩)
                    · first
                        | exact absurd h213 (by omega)
                        | refine x_iload hx hb d_M_store_216 hl rfl ?_
                          refine lv_goto hx hb d_M_store_218 rfl ?_
                          first | refine x_i2s hx hb d_M_store_222 (by omega) ?_ | refine lv_i2s hx hb d_M_store_222 rfl ?_
                          refine rs_19 hx hb hK hI hB hw (by omega) (by omega) d_M_store_223 (fun H locs hw hB => ?_)
                          first | refine x_aload_n hx hb d_M_store_224 hl rfl ?_ | refine x_aload_nQ hx hb d_M_store_224 hl rfl ?_
                          refine m_get hx hb hts hown hK hw ci_M (rf_at hI 0 (by decide) rfl) 20 (by decide) (wm3 92 rfl rfl) rfl d_M_store_225 ?_
                          first | refine x_aload_n hx hb d_M_store_228 hl rfl ?_ | refine x_aload_nQ hx hb d_M_store_228 hl rfl ?_
                          refine m_get (v := .int (nI (τ 16 0))) hx hb hts hown hK hw ci_M (rf_at hI 0 (by decide) rfl) 16 (by decide) (wm3 88 rfl rfl) rfl d_M_store_229 ?_
                          refine x_iload hx hb d_M_store_232 hl rfl ?_
                          refine x_if_eq hx hb d_M_store_234 rfl (by omega) (fun h234 => ?_) (fun h234 => ?_)
                          · first
                              | exact absurd h234 (by omega)
                              | refine lv_iconst (v := nI 1) hx hb d_M_store_251 (by decide) ?_
                                first | refine x_i2b hx hb d_M_store_252 (by omega) ?_ | refine x_i2b hx hb d_M_store_252 (show _ from hch) ?_
                                first | refine rs_20 hx hb hK hI hB hw (by omega) (by omega) d_M_store_253 (fun H locs hw hB => ?_) | refine rs_20 hx hb hK hI hB hw (by omega) (show _ from hch) d_M_store_253 (fun H locs hw hB => ?_)
                                first | refine x_aload_n hx hb d_M_store_254 hl rfl ?_ | refine x_aload_nQ hx hb d_M_store_254 hl rfl ?_
                                first | refine lv_dup hx hb d_M_store_255 rfl ?_ | refine lv_dup hx hb d_M_store_255 (va_rf_c _) ?_
                                refine m_get (v := .int (nI (τ 16 0))) hx hb hts hown hK hw ci_M (rf_at hI 0 (by decide) rfl) 16 (by decide) (wm3 88 rfl rfl) rfl d_M_store_256 ?_
                                refine lv_iconst (v := nI 1) hx hb d_M_store_259 (by decide) ?_
                                first | refine x_iadd hx hb d_M_store_260 ?_ | refine lv_iadd hx hb d_M_store_260 ?_
                                refine rp_16 hx hb hts hown hK hI hB hw (wm3 88 rfl rfl) (by omega) d_M_store_261 (fun H locs hw hB => ?_)
                                first | refine x_aload_n hx hb d_M_store_264 hl rfl ?_ | refine x_aload_nQ hx hb d_M_store_264 hl rfl ?_
                                refine m_get hx hb hts hown hK hw ci_M (rf_at hI 0 (by decide) rfl) 15 (by decide) (wm3 87 rfl rfl) rfl d_M_store_265 ?_
                                refine x_iload_n hx hb d_M_store_268 hl rfl ?_
                                first | refine x_aload_n hx hb d_M_store_269 hl rfl ?_ | refine x_aload_nQ hx hb d_M_store_269 hl rfl ?_
                                refine m_get (v := .int (nI (τ 16 0 + 1))) hx hb hts hown hK hw ci_M (rf_at hI 0 (by decide) rfl) 16 (by decide) (wm3 88 rfl rfl) rfl d_M_store_270 ?_
                                first | refine x_i2s hx hb d_M_store_273 (by omega) ?_ | refine lv_i2s hx hb d_M_store_273 rfl ?_
                                refine rs_15 hx hb hK hI hB hw (by omega) (by omega) d_M_store_274 (fun H locs hw hB => ?_)
                                exact x_retv hQ hx hb hr hlk hw (by omega) (by omega) d_M_store_275 (by rw [hst2, st2_3 h13 h75, h3f]; exact ⟨rfl, hB⟩)
                          · first
                              | exact absurd h234 (by omega)
                              | first | refine x_aload_n hx hb d_M_store_237 hl rfl ?_ | refine x_aload_nQ hx hb d_M_store_237 hl rfl ?_
                                refine m_get hx hb hts hown hK hw ci_M (rf_at hI 0 (by decide) rfl) 20 (by decide) (wm3 92 rfl rfl) rfl d_M_store_238 ?_
                                refine x_iload hx hb d_M_store_241 hl rfl ?_
                                refine lv_iconst (v := nI 1) hx hb d_M_store_243 (by decide) ?_
                                refine x_isub hx hb d_M_store_244 (by omega) ?_
                                refine rl_20 hx hb hK hI hB hw (by omega) d_M_store_245 (fun hv245 => ?_)
                                refine lv_iconst (v := nI 1) hx hb d_M_store_246 (by decide) ?_
                                first | refine x_iadd hx hb d_M_store_247 ?_ | refine lv_iadd hx hb d_M_store_247 ?_
                                refine lv_goto hx hb d_M_store_248 rfl ?_
                                first | refine x_i2b hx hb d_M_store_252 (by omega) ?_ | refine x_i2b hx hb d_M_store_252 (show _ from hch) ?_
                                first | refine rs_20 hx hb hK hI hB hw (by omega) (by omega) d_M_store_253 (fun H locs hw hB => ?_) | refine rs_20 hx hb hK hI hB hw (by omega) (show _ from hch) d_M_store_253 (fun H locs hw hB => ?_)
                                first | refine x_aload_n hx hb d_M_store_254 hl rfl ?_ | refine x_aload_nQ hx hb d_M_store_254 hl rfl ?_
                                first | refine lv_dup hx hb d_M_store_255 rfl ?_ | refine lv_dup hx hb d_M_store_255 (va_rf_c _) ?_
                                refine m_get (v := .int (nI (τ 16 0))) hx hb hts hown hK hw ci_M (rf_at hI 0 (by decide) rfl) 16 (by decide) (wm3 88 rfl rfl) rfl d_M_store_256 ?_
                                refine lv_iconst (v := nI 1) hx hb d_M_store_259 (by decide) ?_
                                first | refine x_iadd hx hb d_M_store_260 ?_ | refine lv_iadd hx hb d_M_store_260 ?_
                                refine rp_16 hx hb hts hown hK hI hB hw (wm3 88 rfl rfl) (by omega) d_M_store_261 (fun H locs hw hB => ?_)
                                first | refine x_aload_n hx hb d_M_store_264 hl rfl ?_ | refine x_aload_nQ hx hb d_M_store_264 hl rfl ?_
                                refine m_get hx hb hts hown hK hw ci_M (rf_at hI 0 (by decide) rfl) 15 (by decide) (wm3 87 rfl rfl) rfl d_M_store_265 ?_
                                refine x_iload_n hx hb d_M_store_268 hl rfl ?_
                                first | refine x_aload_n hx hb d_M_store_269 hl rfl ?_ | refine x_aload_nQ hx hb d_M_store_269 hl rfl ?_
                                refine m_get (v := .int (nI (τ 16 0 + 1))) hx hb hts hown hK hw ci_M (rf_at hI 0 (by decide) rfl) 16 (by decide) (wm3 88 rfl rfl) rfl d_M_store_270 ?_
                                first | refine x_i2s hx hb d_M_store_273 (by omega) ?_ | refine lv_i2s hx hb d_M_store_273 rfl ?_
                                refine rs_15 hx hb hK hI hB hw (by omega) (by omega) d_M_store_274 (fun H locs hw hB => ?_)
                                exact x_retv hQ hx hb hr hlk hw (by omega) (by omega) d_M_store_275 (by rw [hst2, st2_3 h13 h75, h3f]; exact ⟨rfl, hB⟩)
                  · have h3f := st3_t hof h147 h163
                    have hch : τ 20 (τ 15 a - 1) + 1 < 128 := by omega
                    refine lv_iconst (v := nI 1) hx hb d_M_store_166 (by decide) ?_
                    refine lv_goto hx hb d_M_store_167 rfl ?_
                    refine x_istore hx hb d_M_store_171 hl (Nat.le_of_ble_eq_true rfl) (lh_k (i := 5) rfl (by first | exact lk_n | exact lk_i | exact lk_r | exact lk_q | exact lk_0)) (fun ls hl => ?_)
                    have hS2 := hSn h13
                    first | refine x_aload_n hx hb d_M_store_173 hl rfl ?_ | refine x_aload_nQ hx hb d_M_store_173 hl rfl ?_
                    refine m_get hx hb hts hown hK hw ci_M (rf_at hI 0 (by decide) rfl) 17 (by decide) (wm3 89 rfl rfl) rfl d_M_store_174 ?_
                    first | refine x_aload_n hx hb d_M_store_177 hl rfl ?_ | refine x_aload_nQ hx hb d_M_store_177 hl rfl ?_
                    refine m_get (v := .int (nI (τ 16 0))) hx hb hts hown hK hw ci_M (rf_at hI 0 (by decide) rfl) 16 (by decide) (wm3 88 rfl rfl) rfl d_M_store_178 ?_
                    first | refine x_aload_n hx hb d_M_store_181 hl rfl ?_ | refine x_aload_nQ hx hb d_M_store_181 hl rfl ?_
                    refine m_get hx hb hts hown hK hw ci_M (rf_at hI 0 (by decide) rfl) 9 (by decide) (wm3 81 rfl rfl) rfl d_M_store_182 ?_
                    refine x_iload_n hx hb d_M_store_185 hl rfl ?_
                    refine rl_9 hx hb hK hI hw (by omega) d_M_store_186 ?_
                    refine rs_17 hx hb hK hI hB hw (by omega) d_M_store_187 (fun H locs hw hB => ?_)
                    first | refine x_aload_n hx hb d_M_store_188 hl rfl ?_ | refine x_aload_nQ hx hb d_M_store_188 hl rfl ?_
                    refine m_get hx hb hts hown hK hw ci_M (rf_at hI 0 (by decide) rfl) 18 (by decide) (wm3 90 rfl rfl) rfl d_M_store_189 ?_
                    first | refine x_aload_n hx hb d_M_store_192 hl rfl ?_ | refine x_aload_nQ hx hb d_M_store_192 hl rfl ?_
                    refine m_get (v := .int (nI (τ 16 0))) hx hb hts hown hK hw ci_M (rf_at hI 0 (by decide) rfl) 16 (by decide) (wm3 88 rfl rfl) rfl d_M_store_193 ?_
                    first | refine x_aload_n hx hb d_M_store_196 hl rfl ?_ | refine x_aload_nQ hx hb d_M_store_196 hl rfl ?_
                    refine m_get hx hb hts hown hK hw ci_M (rf_at hI 0 (by decide) rfl) 7 (by decide) (wm3 79 rfl rfl) rfl d_M_store_197 ?_
                    refine x_iload_n hx hb d_M_store_200 hl rfl ?_
                    refine rl_7 hx hb hK hI hB hw (by omega) d_M_store_201 (fun hv201 => ?_)
                    refine rs_18 hx hb hK hI hB hw (by omega) (show _ from h712 n) d_M_store_202 (fun H locs hw hB => ?_)
                    first | refine x_aload_n hx hb d_M_store_203 hl rfl ?_ | refine x_aload_nQ hx hb d_M_store_203 hl rfl ?_
                    refine m_get hx hb hts hown hK hw ci_M (rf_at hI 0 (by decide) rfl) 19 (by decide) (wm3 91 rfl rfl) rfl d_M_store_204 ?_
                    first | refine x_aload_n hx hb d_M_store_207 hl rfl ?_ | refine x_aload_nQ hx hb d_M_store_207 hl rfl ?_
                    refine m_get (v := .int (nI (τ 16 0))) hx hb hts hown hK hw ci_M (rf_at hI 0 (by decide) rfl) 16 (by decide) (wm3 88 rfl rfl) rfl d_M_store_208 ?_
                    refine x_iload hx hb d_M_store_211 hl rfl ?_
                    refine x_if_eq hx hb d_M_store_213 rfl (by omega) (fun h213 => ?_) (fun h213 => ?_)
                    · first
                        | exact absurd h213 (by omega)
                        | refine lv_iconst (v := nI 0) hx hb d_M_store_221 (by decide) ?_
                          first | refine x_i2s hx hb d_M_store_222 (by omega) ?_ | refine lv_i2s hx hb d_M_store_222 rfl ?_
                          refine rs_19 hx hb hK hI hB hw (by omega) (by omega) d_M_store_223 (fun H locs hw hB => ?_)
                          first | refine x_aload_n hx hb d_M_store_224 hl rfl ?_ | refine x_aload_nQ hx hb d_M_store_224 hl rfl ?_
                          refine m_get hx hb hts hown hK hw ci_M (rf_at hI 0 (by decide) rfl) 20 (by decide) (wm3 92 rfl rfl) rfl d_M_store_225 ?_
                          first | refine x_aload_n hx hb d_M_store_228 hl rfl ?_ | refine x_aload_nQ hx hb d_M_store_228 hl rfl ?_
                          refine m_get (v := .int (nI (τ 16 0))) hx hb hts hown hK hw ci_M (rf_at hI 0 (by decide) rfl) 16 (by decide) (wm3 88 rfl rfl) rfl d_M_store_229 ?_
                          refine x_iload hx hb d_M_store_232 hl rfl ?_
                          refine x_if_eq hx hb d_M_store_234 rfl (by omega) (fun h234 => ?_) (fun h234 => ?_)
                          · first
                              | exact absurd h234 (by omega)
                              | refine lv_iconst (v := nI 1) hx hb d_M_store_251 (by decide) ?_
                                first | refine x_i2b hx hb d_M_store_252 (by omega) ?_ | refine x_i2b hx hb d_M_store_252 (show _ from hch) ?_
                                first | refine rs_20 hx hb hK hI hB hw (by omega) (by omega) d_M_store_253 (fun H locs hw hB => ?_) | refine rs_20 hx hb hK hI hB hw (by omega) (show _ from hch) d_M_store_253 (fun H locs hw hB => ?_)
                                first | refine x_aload_n hx hb d_M_store_254 hl rfl ?_ | refine x_aload_nQ hx hb d_M_store_254 hl rfl ?_
                                first | refine lv_dup hx hb d_M_store_255 rfl ?_ | refine lv_dup hx hb d_M_store_255 (va_rf_c _) ?_
                                refine m_get (v := .int (nI (τ 16 0))) hx hb hts hown hK hw ci_M (rf_at hI 0 (by decide) rfl) 16 (by decide) (wm3 88 rfl rfl) rfl d_M_store_256 ?_
                                refine lv_iconst (v := nI 1) hx hb d_M_store_259 (by decide) ?_
                                first | refine x_iadd hx hb d_M_store_260 ?_ | refine lv_iadd hx hb d_M_store_260 ?_
                                refine rp_16 hx hb hts hown hK hI hB hw (wm3 88 rfl rfl) (by omega) d_M_store_261 (fun H locs hw hB => ?_)
                                first | refine x_aload_n hx hb d_M_store_264 hl rfl ?_ | refine x_aload_nQ hx hb d_M_store_264 hl rfl ?_
                                refine m_get hx hb hts hown hK hw ci_M (rf_at hI 0 (by decide) rfl) 15 (by decide) (wm3 87 rfl rfl) rfl d_M_store_265 ?_
                                refine x_iload_n hx hb d_M_store_268 hl rfl ?_
                                first | refine x_aload_n hx hb d_M_store_269 hl rfl ?_ | refine x_aload_nQ hx hb d_M_store_269 hl rfl ?_
                                refine m_get (v := .int (nI (τ 16 0 + 1))) hx hb hts hown hK hw ci_M (rf_at hI 0 (by decide) rfl) 16 (by decide) (wm3 88 rfl rfl) rfl d_M_store_270 ?_
                                first | refine x_i2s hx hb d_M_store_273 (by omega) ?_ | refine lv_i2s hx hb d_M_store_273 rfl ?_
                                refine rs_15 hx hb hK hI hB hw (by omega) (by omega) d_M_store_274 (fun H locs hw hB => ?_)
                                exact x_retv hQ hx hb hr hlk hw (by omega) (by omega) d_M_store_275 (by rw [hst2, st2_3 h13 h75, h3f]; exact ⟨rfl, hB⟩)
                          · first
                              | exact absurd h234 (by omega)
                              | first | refine x_aload_n hx hb d_M_store_237 hl rfl ?_ | refine x_aload_nQ hx hb d_M_store_237 hl rfl ?_
                                refine m_get hx hb hts hown hK hw ci_M (rf_at hI 0 (by decide) rfl) 20 (by decide) (wm3 92 rfl rfl) rfl d_M_store_238 ?_
                                refine x_iload hx hb d_M_store_241 hl rfl ?_
                                refine lv_iconst (v := nI 1) hx hb d_M_store_243 (by decide) ?_
                                refine x_isub hx hb d_M_store_244 (by omega) ?_
                                refine rl_20 hx hb hK hI hB hw (by omega) d_M_store_245 (fun hv245 => ?_)
                                refine lv_iconst (v := nI 1) hx hb d_M_store_246 (by decide) ?_
                                first | refine x_iadd hx hb d_M_store_247 ?_ | refine lv_iadd hx hb d_M_store_247 ?_
                                refine lv_goto hx hb d_M_store_248 rfl ?_
                                first | refine x_i2b hx hb d_M_store_252 (by omega) ?_ | refine x_i2b hx hb d_M_store_252 (show _ from hch) ?_
                                first | refine rs_20 hx hb hK hI hB hw (by omega) (by omega) d_M_store_253 (fun H locs hw hB => ?_) | refine rs_20 hx hb hK hI hB hw (by omega) (show _ from hch) d_M_store_253 (fun H locs hw hB => ?_)
                                first | refine x_aload_n hx hb d_M_store_254 hl rfl ?_ | refine x_aload_nQ hx hb d_M_store_254 hl rfl ?_
                                first | refine lv_dup hx hb d_M_store_255 rfl ?_ | refine lv_dup hx hb d_M_store_255 (va_rf_c _) ?_
                                refine m_get (v := .int (nI (τ 16 0))) hx hb hts hown hK hw ci_M (rf_at hI 0 (by decide) rfl) 16 (by decide) (wm3 88 rfl rfl) rfl d_M_store_256 ?_
                                refine lv_iconst (v := nI 1) hx hb d_M_store_259 (by decide) ?_
                                first | refine x_iadd hx hb d_M_store_260 ?_ | refine lv_iadd hx hb d_M_store_260 ?_
                                refine rp_16 hx hb hts hown hK hI hB hw (wm3 88 rfl rfl) (by omega) d_M_store_261 (fun H locs hw hB => ?_)
                                first | refine x_aload_n hx hb d_M_store_264 hl rfl ?_ | refine x_aload_nQ hx hb d_M_store_264 hl rfl ?_
                                refine m_get hx hb hts hown hK hw ci_M (rf_at hI 0 (by decide) rfl) 15 (by decide) (wm3 87 rfl rfl) rfl d_M_store_265 ?_
                                refine x_iload_n hx hb d_M_store_268 hl rfl ?_
                                first | refine x_aload_n hx hb d_M_store_269 hl rfl ?_ | refine x_aload_nQ hx hb d_M_store_269 hl rfl ?_
                                refine m_get (v := .int (nI (τ 16 0 + 1))) hx hb hts hown hK hw ci_M (rf_at hI 0 (by decide) rfl) 16 (by decide) (wm3 88 rfl rfl) rfl d_M_store_270 ?_
                                first | refine x_i2s hx hb d_M_store_273 (by omega) ?_ | refine lv_i2s hx hb d_M_store_273 rfl ?_
                                refine rs_15 hx hb hK hI hB hw (by omega) (by omega) d_M_store_274 (fun H locs hw hB => ?_)
                                exact x_retv hQ hx hb hr hlk hw (by omega) (by omega) d_M_store_275 (by rw [hst2, st2_3 h13 h75, h3f]; exact ⟨rfl, hB⟩)
                    · first
                        | exact absurd h213 (by omega)
                        | refine x_iload hx hb d_M_store_216 hl rfl ?_
                          refine lv_goto hx hb d_M_store_218 rfl ?_
                          first | refine x_i2s hx hb d_M_store_222 (by omega) ?_ | refine lv_i2s hx hb d_M_store_222 rfl ?_
                          refine rs_19 hx hb hK hI hB hw (by omega) (by omega) d_M_store_223 (fun H locs hw hB => ?_)
                          first | refine x_aload_n hx hb d_M_store_224 hl rfl ?_ | refine x_aload_nQ hx hb d_M_store_224 hl rfl ?_
                          refine m_get hx hb hts hown hK hw ci_M (rf_at hI 0 (by decide) rfl) 20 (by decide) (wm3 92 rfl rfl) rfl d_M_store_225 ?_
                          first | refine x_aload_n hx hb d_M_store_228 hl rfl ?_ | refine x_aload_nQ hx hb d_M_store_228 hl rfl ?_
                          refine m_get (v := .int (nI (τ 16 0))) hx hb hts hown hK hw ci_M (rf_at hI 0 (by decide) rfl) 16 (by decide) (wm3 88 rfl rfl) rfl d_M_store_229 ?_
                          refine x_iload hx hb d_M_store_232 hl rfl ?_
                          refine x_if_eq hx hb d_M_store_234 rfl (by omega) (fun h234 => ?_) (fun h234 => ?_)
                          · first
                              | exact absurd h234 (by omega)
                              | refine lv_iconst (v := nI 1) hx hb d_M_store_251 (by decide) ?_
                                first | refine x_i2b hx hb d_M_store_252 (by omega) ?_ | refine x_i2b hx hb d_M_store_252 (show _ from hch) ?_
                                first | refine rs_20 hx hb hK hI hB hw (by omega) (by omega) d_M_store_253 (fun H locs hw hB => ?_) | refine rs_20 hx hb hK hI hB hw (by omega) (show _ from hch) d_M_store_253 (fun H locs hw hB => ?_)
                                first | refine x_aload_n hx hb d_M_store_254 hl rfl ?_ | refine x_aload_nQ hx hb d_M_store_254 hl rfl ?_
                                first | refine lv_dup hx hb d_M_store_255 rfl ?_ | refine lv_dup hx hb d_M_store_255 (va_rf_c _) ?_
                                refine m_get (v := .int (nI (τ 16 0))) hx hb hts hown hK hw ci_M (rf_at hI 0 (by decide) rfl) 16 (by decide) (wm3 88 rfl rfl) rfl d_M_store_256 ?_
                                refine lv_iconst (v := nI 1) hx hb d_M_store_259 (by decide) ?_
                                first | refine x_iadd hx hb d_M_store_260 ?_ | refine lv_iadd hx hb d_M_store_260 ?_
                                refine rp_16 hx hb hts hown hK hI hB hw (wm3 88 rfl rfl) (by omega) d_M_store_261 (fun H locs hw hB => ?_)
                                first | refine x_aload_n hx hb d_M_store_264 hl rfl ?_ | refine x_aload_nQ hx hb d_M_store_264 hl rfl ?_
                                refine m_get hx hb hts hown hK hw ci_M (rf_at hI 0 (by decide) rfl) 15 (by decide) (wm3 87 rfl rfl) rfl d_M_store_265 ?_
                                refine x_iload_n hx hb d_M_store_268 hl rfl ?_
                                first | refine x_aload_n hx hb d_M_store_269 hl rfl ?_ | refine x_aload_nQ hx hb d_M_store_269 hl rfl ?_
                                refine m_get (v := .int (nI (τ 16 0 + 1))) hx hb hts hown hK hw ci_M (rf_at hI 0 (by decide) rfl) 16 (by decide) (wm3 88 rfl rfl) rfl d_M_store_270 ?_
                                first | refine x_i2s hx hb d_M_store_273 (by omega) ?_ | refine lv_i2s hx hb d_M_store_273 rfl ?_
                                refine rs_15 hx hb hK hI hB hw (by omega) (by omega) d_M_store_274 (fun H locs hw hB => ?_)
                                exact x_retv hQ hx hb hr hlk hw (by omega) (by omega) d_M_store_275 (by rw [hst2, st2_3 h13 h75, h3f]; exact ⟨rfl, hB⟩)
                          · first
                              | exact absurd h234 (by omega)
                              | first | refine x_aload_n hx hb d_M_store_237 hl rfl ?_ | refine x_aload_nQ hx hb d_M_store_237 hl rfl ?_
                                refine m_get hx hb hts hown hK hw ci_M (rf_at hI 0 (by decide) rfl) 20 (by decide) (wm3 92 rfl rfl) rfl d_M_store_238 ?_
                                refine x_iload hx hb d_M_store_241 hl rfl ?_
                                refine lv_iconst (v := nI 1) hx hb d_M_store_243 (by decide) ?_
                                refine x_isub hx hb d_M_store_244 (by omega) ?_
                                refine rl_20 hx hb hK hI hB hw (by omega) d_M_store_245 (fun hv245 => ?_)
                                refine lv_iconst (v := nI 1) hx hb d_M_store_246 (by decide) ?_
                                first | refine x_iadd hx hb d_M_store_247 ?_ | refine lv_iadd hx hb d_M_store_247 ?_
                                refine lv_goto hx hb d_M_store_248 rfl ?_
                                first | refine x_i2b hx hb d_M_store_252 (by omega) ?_ | refine x_i2b hx hb d_M_store_252 (show _ from hch) ?_
                                first | refine rs_20 hx hb hK hI hB hw (by omega) (by omega) d_M_store_253 (fun H locs hw hB => ?_) | refine rs_20 hx hb hK hI hB hw (by omega) (show _ from hch) d_M_store_253 (fun H locs hw hB => ?_)
                                first | refine x_aload_n hx hb d_M_store_254 hl rfl ?_ | refine x_aload_nQ hx hb d_M_store_254 hl rfl ?_
                                first | refine lv_dup hx hb d_M_store_255 rfl ?_ | refine lv_dup hx hb d_M_store_255 (va_rf_c _) ?_
                                refine m_get (v := .int (nI (τ 16 0))) hx hb hts hown hK hw ci_M (rf_at hI 0 (by decide) rfl) 16 (by decide) (wm3 88 rfl rfl) rfl d_M_store_256 ?_
                                refine lv_iconst (v := nI 1) hx hb d_M_store_259 (by decide) ?_
                                first | refine x_iadd hx hb d_M_store_260 ?_ | refine lv_iadd hx hb d_M_store_260 ?_
                                refine rp_16 hx hb hts hown hK hI hB hw (wm3 88 rfl rfl) (by omega) d_M_store_261 (fun H locs hw hB => ?_)
                                first | refine x_aload_n hx hb d_M_store_264 hl rfl ?_ | refine x_aload_nQ hx hb d_M_store_264 hl rfl ?_
                                refine m_get hx hb hts hown hK hw ci_M (rf_at hI 0 (by decide) rfl) 15 (by decide) (wm3 87 rfl rfl) rfl d_M_store_265 ?_
                                refine x_iload_n hx hb d_M_store_268 hl rfl ?_
                                first | refine x_aload_n hx hb d_M_store_269 hl rfl ?_ | refine x_aload_nQ hx hb d_M_store_269 hl rfl ?_
                                refine m_get (v := .int (nI (τ 16 0 + 1))) hx hb hts hown hK hw ci_M (rf_at hI 0 (by decide) rfl) 16 (by decide) (wm3 88 rfl rfl) rfl d_M_store_270 ?_
                                first | refine x_i2s hx hb d_M_store_273 (by omega) ?_ | refine lv_i2s hx hb d_M_store_273 rfl ?_
                                refine rs_15 hx hb hK hI hB hw (by omega) (by omega) d_M_store_274 (fun H locs hw hB => ?_)
                                exact x_retv hQ hx hb hr hlk hw (by omega) (by omega) d_M_store_275 (by rw [hst2, st2_3 h13 h75, h3f]; exact ⟨rfl, hB⟩)
          · have hof := oldf_1 ha h125 h129
            have h15 := h515 a
            first | refine x_aload_n hx hb d_M_store_132 hl rfl ?_ | refine x_aload_nQ hx hb d_M_store_132 hl rfl ?_
            refine m_get hx hb hts hown hK hw ci_M (rf_at hI 0 (by decide) rfl) 15 (by decide) (wm3 87 rfl rfl) rfl d_M_store_133 ?_
            refine x_iload hx hb d_M_store_136 hl rfl ?_
            refine rl_15 hx hb hK hI hB hw (by omega) d_M_store_138 (fun hv138 => ?_)
            refine lv_goto hx hb d_M_store_139 rfl ?_
            refine x_istore hx hb d_M_store_143 hl (Nat.le_of_ble_eq_true rfl) (lh_k (i := 4) rfl (by first | exact lk_n | exact lk_i | exact lk_r | exact lk_q | exact lk_0)) (fun ls hl => ?_)
            have hal := alw_le (c := τ 11 n) 20 0
            refine x_iload hx hb d_M_store_145 hl rfl ?_
            refine x_if_le hx hb d_M_store_147 rfl (by omega) (fun h147 => ?_) (fun h147 => ?_)
            · first
                | exact absurd h147 (by omega)
                | have h3f := st3_f hof (Or.inl (by omega))
                  refine lv_iconst (v := nI 0) hx hb d_M_store_170 (by decide) ?_
                  refine x_istore hx hb d_M_store_171 hl (Nat.le_of_ble_eq_true rfl) (lh_k (i := 5) rfl (by first | exact lk_n | exact lk_i | exact lk_r | exact lk_q | exact lk_0)) (fun ls hl => ?_)
                  have hS2 := hSn h13
                  first | refine x_aload_n hx hb d_M_store_173 hl rfl ?_ | refine x_aload_nQ hx hb d_M_store_173 hl rfl ?_
                  refine m_get hx hb hts hown hK hw ci_M (rf_at hI 0 (by decide) rfl) 17 (by decide) (wm3 89 rfl rfl) rfl d_M_store_174 ?_
                  first | refine x_aload_n hx hb d_M_store_177 hl rfl ?_ | refine x_aload_nQ hx hb d_M_store_177 hl rfl ?_
                  refine m_get (v := .int (nI (τ 16 0))) hx hb hts hown hK hw ci_M (rf_at hI 0 (by decide) rfl) 16 (by decide) (wm3 88 rfl rfl) rfl d_M_store_178 ?_
                  first | refine x_aload_n hx hb d_M_store_181 hl rfl ?_ | refine x_aload_nQ hx hb d_M_store_181 hl rfl ?_
                  refine m_get hx hb hts hown hK hw ci_M (rf_at hI 0 (by decide) rfl) 9 (by decide) (wm3 81 rfl rfl) rfl d_M_store_182 ?_
                  refine x_iload_n hx hb d_M_store_185 hl rfl ?_
                  refine rl_9 hx hb hK hI hw (by omega) d_M_store_186 ?_
                  refine rs_17 hx hb hK hI hB hw (by omega) d_M_store_187 (fun H locs hw hB => ?_)
                  first | refine x_aload_n hx hb d_M_store_188 hl rfl ?_ | refine x_aload_nQ hx hb d_M_store_188 hl rfl ?_
                  refine m_get hx hb hts hown hK hw ci_M (rf_at hI 0 (by decide) rfl) 18 (by decide) (wm3 90 rfl rfl) rfl d_M_store_189 ?_
                  first | refine x_aload_n hx hb d_M_store_192 hl rfl ?_ | refine x_aload_nQ hx hb d_M_store_192 hl rfl ?_
                  refine m_get (v := .int (nI (τ 16 0))) hx hb hts hown hK hw ci_M (rf_at hI 0 (by decide) rfl) 16 (by decide) (wm3 88 rfl rfl) rfl d_M_store_193 ?_
                  first | refine x_aload_n hx hb d_M_store_196 hl rfl ?_ | refine x_aload_nQ hx hb d_M_store_196 hl rfl ?_
                  refine m_get hx hb hts hown hK hw ci_M (rf_at hI 0 (by decide) rfl) 7 (by decide) (wm3 79 rfl rfl) rfl d_M_store_197 ?_
                  refine x_iload_n hx hb d_M_store_200 hl rfl ?_
                  refine rl_7 hx hb hK hI hB hw (by omega) d_M_store_201 (fun hv201 => ?_)
                  refine rs_18 hx hb hK hI hB hw (by omega) (show _ from h712 n) d_M_store_202 (fun H locs hw hB => ?_)
                  first | refine x_aload_n hx hb d_M_store_203 hl rfl ?_ | refine x_aload_nQ hx hb d_M_store_203 hl rfl ?_
                  refine m_get hx hb hts hown hK hw ci_M (rf_at hI 0 (by decide) rfl) 19 (by decide) (wm3 91 rfl rfl) rfl d_M_store_204 ?_
                  first | refine x_aload_n hx hb d_M_store_207 hl rfl ?_ | refine x_aload_nQ hx hb d_M_store_207 hl rfl ?_
                  refine m_get (v := .int (nI (τ 16 0))) hx hb hts hown hK hw ci_M (rf_at hI 0 (by decide) rfl) 16 (by decide) (wm3 88 rfl rfl) rfl d_M_store_208 ?_
                  refine x_iload hx hb d_M_store_211 hl rfl ?_
                  refine x_if_eq hx hb d_M_store_213 rfl (by omega) (fun h213 => ?_) (fun h213 => ?_)
                  · first
                      | exact absurd h213 (by omega)
                      | refine lv_iconst (v := nI 0) hx hb d_M_store_221 (by decide) ?_
                        first | refine x_i2s hx hb d_M_store_222 (by omega) ?_ | refine lv_i2s hx hb d_M_store_222 rfl ?_
                        refine rs_19 hx hb hK hI hB hw (by omega) (by omega) d_M_store_223 (fun H locs hw hB => ?_)
                        first | refine x_aload_n hx hb d_M_store_224 hl rfl ?_ | refine x_aload_nQ hx hb d_M_store_224 hl rfl ?_
                        refine m_get hx hb hts hown hK hw ci_M (rf_at hI 0 (by decide) rfl) 20 (by decide) (wm3 92 rfl rfl) rfl d_M_store_225 ?_
                        first | refine x_aload_n hx hb d_M_store_228 hl rfl ?_ | refine x_aload_nQ hx hb d_M_store_228 hl rfl ?_
                        refine m_get (v := .int (nI (τ 16 0))) hx hb hts hown hK hw ci_M (rf_at hI 0 (by decide) rfl) 16 (by decide) (wm3 88 rfl rfl) rfl d_M_store_229 ?_
                        refine x_iload hx hb d_M_store_232 hl rfl ?_
                        refine x_if_eq hx hb d_M_store_234 rfl (by omega) (fun h234 => ?_) (fun h234 => ?_)
                        · first
                            | exact absurd h234 (by omega)
                            | refine lv_iconst (v := nI 1) hx hb d_M_store_251 (by decide) ?_
                              first | refine x_i2b hx hb d_M_store_252 (by omega) ?_ | refine x_i2b hx hb d_M_store_252 (show _ from hch) ?_
                              first | refine rs_20 hx hb hK hI hB hw (by omega) (by omega) d_M_store_253 (fun H locs hw hB => ?_) | refine rs_20 hx hb hK hI hB hw (by omega) (show _ from hch) d_M_store_253 (fun H locs hw hB => ?_)
                              first | refine x_aload_n hx hb d_M_store_254 hl rfl ?_ | refine x_aload_nQ hx hb d_M_store_254 hl rfl ?_
                              first | refine lv_dup hx hb d_M_store_255 rfl ?_ | refine lv_dup hx hb d_M_store_255 (va_rf_c _) ?_
                              refine m_get (v := .int (nI (τ 16 0))) hx hb hts hown hK hw ci_M (rf_at hI 0 (by decide) rfl) 16 (by decide) (wm3 88 rfl rfl) rfl d_M_store_256 ?_
                              refine lv_iconst (v := nI 1) hx hb d_M_store_259 (by decide) ?_
                              first | refine x_iadd hx hb d_M_store_260 ?_ | refine lv_iadd hx hb d_M_store_260 ?_
                              refine rp_16 hx hb hts hown hK hI hB hw (wm3 88 rfl rfl) (by omega) d_M_store_261 (fun H locs hw hB => ?_)
                              first | refine x_aload_n hx hb d_M_store_264 hl rfl ?_ | refine x_aload_nQ hx hb d_M_store_264 hl rfl ?_
                              refine m_get hx hb hts hown hK hw ci_M (rf_at hI 0 (by decide) rfl) 15 (by decide) (wm3 87 rfl rfl) rfl d_M_store_265 ?_
                              refine x_iload_n hx hb d_M_store_268 hl rfl ?_
                              first | refine x_aload_n hx hb d_M_store_269 hl rfl ?_ | refine x_aload_nQ hx hb d_M_store_269 hl rfl ?_
                              refine m_get (v := .int (nI (τ 16 0 + 1))) hx hb hts hown hK hw ci_M (rf_at hI 0 (by decide) rfl) 16 (by decide) (wm3 88 rfl rfl) rfl d_M_store_270 ?_
                              first | refine x_i2s hx hb d_M_store_273 (by omega) ?_ | refine lv_i2s hx hb d_M_store_273 rfl ?_
                              refine rs_15 hx hb hK hI hB hw (by omega) (by omega) d_M_store_274 (fun H locs hw hB => ?_)
                              exact x_retv hQ hx hb hr hlk hw (by omega) (by omega) d_M_store_275 (by rw [hst2, st2_3 h13 h75, h3f]; exact ⟨rfl, hB⟩)
                        · first
                            | exact absurd h234 (by omega)
                            | first | refine x_aload_n hx hb d_M_store_237 hl rfl ?_ | refine x_aload_nQ hx hb d_M_store_237 hl rfl ?_
                              refine m_get hx hb hts hown hK hw ci_M (rf_at hI 0 (by decide) rfl) 20 (by decide) (wm3 92 rfl rfl) rfl d_M_store_238 ?_
                              refine x_iload hx hb d_M_store_241 hl rfl ?_
                              refine lv_iconst (v := nI 1) hx hb d_M_store_243 (by decide) ?_
                              refine x_isub hx hb d_M_store_244 (by omega) ?_
                              refine rl_20 hx hb hK hI hB hw (by omega) d_M_store_245 (fun hv245 => ?_)
                              refine lv_iconst (v := nI 1) hx hb d_M_store_246 (by decide) ?_
                              first | refine x_iadd hx hb d_M_store_247 ?_ | refine lv_iadd hx hb d_M_store_247 ?_
                              refine lv_goto hx hb d_M_store_248 rfl ?_
                              first | refine x_i2b hx hb d_M_store_252 (by omega) ?_ | refine x_i2b hx hb d_M_store_252 (show _ from hch) ?_
                              first | refine rs_20 hx hb hK hI hB hw (by omega) (by omega) d_M_store_253 (fun H locs hw hB => ?_) | refine rs_20 hx hb hK hI hB hw (by omega) (show _ from hch) d_M_store_253 (fun H locs hw hB => ?_)
                              first | refine x_aload_n hx hb d_M_store_254 hl rfl ?_ | refine x_aload_nQ hx hb d_M_store_254 hl rfl ?_
                              first | refine lv_dup hx hb d_M_store_255 rfl ?_ | refine lv_dup hx hb d_M_store_255 (va_rf_c _) ?_
                              refine m_get (v := .int (nI (τ 16 0))) hx hb hts hown hK hw ci_M (rf_at hI 0 (by decide) rfl) 16 (by decide) (wm3 88 rfl rfl) rfl d_M_store_256 ?_
                              refine lv_iconst (v := nI 1) hx hb d_M_store_259 (by decide) ?_
                              first | refine x_iadd hx hb d_M_store_260 ?_ | refine lv_iadd hx hb d_M_store_260 ?_
                              refine rp_16 hx hb hts hown hK hI hB hw (wm3 88 rfl rfl) (by omega) d_M_store_261 (fun H locs hw hB => ?_)
                              first | refine x_aload_n hx hb d_M_store_264 hl rfl ?_ | refine x_aload_nQ hx hb d_M_store_264 hl rfl ?_
                              refine m_get hx hb hts hown hK hw ci_M (rf_at hI 0 (by decide) rfl) 15 (by decide) (wm3 87 rfl rfl) rfl d_M_store_265 ?_
                              refine x_iload_n hx hb d_M_store_268 hl rfl ?_
                              first | refine x_aload_n hx hb d_M_store_269 hl rfl ?_ | refine x_aload_nQ hx hb d_M_store_269 hl rfl ?_
                              refine m_get (v := .int (nI (τ 16 0 + 1))) hx hb hts hown hK hw ci_M (rf_at hI 0 (by decide) rfl) 16 (by decide) (wm3 88 rfl rfl) rfl d_M_store_270 ?_
                              first | refine x_i2s hx hb d_M_store_273 (by omega) ?_ | refine lv_i2s hx hb d_M_store_273 rfl ?_
                              refine rs_15 hx hb hK hI hB hw (by omega) (by omega) d_M_store_274 (fun H locs hw hB => ?_)
                              exact x_retv hQ hx hb hr hlk hw (by omega) (by omega) d_M_store_275 (by rw [hst2, st2_3 h13 h75, h3f]; exact ⟨rfl, hB⟩)
                  · first
                      | exact absurd h213 (by omega)
                      | refine x_iload hx hb d_M_store_216 hl rfl ?_
                        refine lv_goto hx hb d_M_store_218 rfl ?_
                        first | refine x_i2s hx hb d_M_store_222 (by omega) ?_ | refine lv_i2s hx hb d_M_store_222 rfl ?_
                        refine rs_19 hx hb hK hI hB hw (by omega) (by omega) d_M_store_223 (fun H locs hw hB => ?_)
                        first | refine x_aload_n hx hb d_M_store_224 hl rfl ?_ | refine x_aload_nQ hx hb d_M_store_224 hl rfl ?_
                        refine m_get hx hb hts hown hK hw ci_M (rf_at hI 0 (by decide) rfl) 20 (by decide) (wm3 92 rfl rfl) rfl d_M_store_225 ?_
                        first | refine x_aload_n hx hb d_M_store_228 hl rfl ?_ | refine x_aload_nQ hx hb d_M_store_228 hl rfl ?_
                        refine m_get (v := .int (nI (τ 16 0))) hx hb hts hown hK hw ci_M (rf_at hI 0 (by decide) rfl) 16 (by decide) (wm3 88 rfl rfl) rfl d_M_store_229 ?_
                        refine x_iload hx hb d_M_store_232 hl rfl ?_
                        refine x_if_eq hx hb d_M_store_234 rfl (by omega) (fun h234 => ?_) (fun h234 => ?_)
                        · first
                            | exact absurd h234 (by omega)
                            | refine lv_iconst (v := nI 1) hx hb d_M_store_251 (by decide) ?_
                              first | refine x_i2b hx hb d_M_store_252 (by omega) ?_ | refine x_i2b hx hb d_M_store_252 (show _ from hch) ?_
                              first | refine rs_20 hx hb hK hI hB hw (by omega) (by omega) d_M_store_253 (fun H locs hw hB => ?_) | refine rs_20 hx hb hK hI hB hw (by omega) (show _ from hch) d_M_store_253 (fun H locs hw hB => ?_)
                              first | refine x_aload_n hx hb d_M_store_254 hl rfl ?_ | refine x_aload_nQ hx hb d_M_store_254 hl rfl ?_
                              first | refine lv_dup hx hb d_M_store_255 rfl ?_ | refine lv_dup hx hb d_M_store_255 (va_rf_c _) ?_
                              refine m_get (v := .int (nI (τ 16 0))) hx hb hts hown hK hw ci_M (rf_at hI 0 (by decide) rfl) 16 (by decide) (wm3 88 rfl rfl) rfl d_M_store_256 ?_
                              refine lv_iconst (v := nI 1) hx hb d_M_store_259 (by decide) ?_
                              first | refine x_iadd hx hb d_M_store_260 ?_ | refine lv_iadd hx hb d_M_store_260 ?_
                              refine rp_16 hx hb hts hown hK hI hB hw (wm3 88 rfl rfl) (by omega) d_M_store_261 (fun H locs hw hB => ?_)
                              first | refine x_aload_n hx hb d_M_store_264 hl rfl ?_ | refine x_aload_nQ hx hb d_M_store_264 hl rfl ?_
                              refine m_get hx hb hts hown hK hw ci_M (rf_at hI 0 (by decide) rfl) 15 (by decide) (wm3 87 rfl rfl) rfl d_M_store_265 ?_
                              refine x_iload_n hx hb d_M_store_268 hl rfl ?_
                              first | refine x_aload_n hx hb d_M_store_269 hl rfl ?_ | refine x_aload_nQ hx hb d_M_store_269 hl rfl ?_
                              refine m_get (v := .int (nI (τ 16 0 + 1))) hx hb hts hown hK hw ci_M (rf_at hI 0 (by decide) rfl) 16 (by decide) (wm3 88 rfl rfl) rfl d_M_store_270 ?_
                              first | refine x_i2s hx hb d_M_store_273 (by omega) ?_ | refine lv_i2s hx hb d_M_store_273 rfl ?_
                              refine rs_15 hx hb hK hI hB hw (by omega) (by omega) d_M_store_274 (fun H locs hw hB => ?_)
                              exact x_retv hQ hx hb hr hlk hw (by omega) (by omega) d_M_store_275 (by rw [hst2, st2_3 h13 h75, h3f]; exact ⟨rfl, hB⟩)
                        · first
                            | exact absurd h234 (by omega)
                            | first | refine x_aload_n hx hb d_M_store_237 hl rfl ?_ | refine x_aload_nQ hx hb d_M_store_237 hl rfl ?_
                              refine m_get hx hb hts hown hK hw ci_M (rf_at hI 0 (by decide) rfl) 20 (by decide) (wm3 92 rfl rfl) rfl d_M_store_238 ?_
                              refine x_iload hx hb d_M_store_241 hl rfl ?_
                              refine lv_iconst (v := nI 1) hx hb d_M_store_243 (by decide) ?_
                              refine x_isub hx hb d_M_store_244 (by omega) ?_
                              refine rl_20 hx hb hK hI hB hw (by omega) d_M_store_245 (fun hv245 => ?_)
                              refine lv_iconst (v := nI 1) hx hb d_M_store_246 (by decide) ?_
                              first | refine x_iadd hx hb d_M_store_247 ?_ | refine lv_iadd hx hb d_M_store_247 ?_
                              refine lv_goto hx hb d_M_store_248 rfl ?_
                              first | refine x_i2b hx hb d_M_store_252 (by omega) ?_ | refine x_i2b hx hb d_M_store_252 (show _ from hch) ?_
                              first | refine rs_20 hx hb hK hI hB hw (by omega) (by omega) d_M_store_253 (fun H locs hw hB => ?_) | refine rs_20 hx hb hK hI hB hw (by omega) (show _ from hch) d_M_store_253 (fun H locs hw hB => ?_)
                              first | refine x_aload_n hx hb d_M_store_254 hl rfl ?_ | refine x_aload_nQ hx hb d_M_store_254 hl rfl ?_
                              first | refine lv_dup hx hb d_M_store_255 rfl ?_ | refine lv_dup hx hb d_M_store_255 (va_rf_c _) ?_
                              refine m_get (v := .int (nI (τ 16 0))) hx hb hts hown hK hw ci_M (rf_at hI 0 (by decide) rfl) 16 (by decide) (wm3 88 rfl rfl) rfl d_M_store_256 ?_
                              refine lv_iconst (v := nI 1) hx hb d_M_store_259 (by decide) ?_
                              first | refine x_iadd hx hb d_M_store_260 ?_ | refine lv_iadd hx hb d_M_store_260 ?_
                              refine rp_16 hx hb hts hown hK hI hB hw (wm3 88 rfl rfl) (by omega) d_M_store_261 (fun H locs hw hB => ?_)
                              first | refine x_aload_n hx hb d_M_store_264 hl rfl ?_ | refine x_aload_nQ hx hb d_M_store_264 hl rfl ?_
                              refine m_get hx hb hts hown hK hw ci_M (rf_at hI 0 (by decide) rfl) 15 (by decide) (wm3 87 rfl rfl) rfl d_M_store_265 ?_
                              refine x_iload_n hx hb d_M_store_268 hl rfl ?_
                              first | refine x_aload_n hx hb d_M_store_269 hl rfl ?_ | refine x_aload_nQ hx hb d_M_store_269 hl rfl ?_
                              refine m_get (v := .int (nI (τ 16 0 + 1))) hx hb hts hown hK hw ci_M (rf_at hI 0 (by decide) rfl) 16 (by decide) (wm3 88 rfl rfl) rfl d_M_store_270 ?_
                              first | refine x_i2s hx hb d_M_store_273 (by omega) ?_ | refine lv_i2s hx hb d_M_store_273 rfl ?_
                              refine rs_15 hx hb hK hI hB hw (by omega) (by omega) d_M_store_274 (fun H locs hw hB => ?_)
                              exact x_retv hQ hx hb hr hlk hw (by omega) (by omega) d_M_store_275 (by rw [hst2, st2_3 h13 h75, h3f]; exact ⟨rfl, hB⟩)
            · first
                | exact absurd h147 (by omega)
                | first | refine x_aload_n hx hb d_M_store_150 hl rfl ?_ | refine x_aload_nQ hx hb d_M_store_150 hl rfl ?_
                  refine m_get hx hb hts hown hK hw ci_M (rf_at hI 0 (by decide) rfl) 20 (by decide) (wm3 92 rfl rfl) rfl d_M_store_151 ?_
                  refine x_iload hx hb d_M_store_154 hl rfl ?_
                  refine lv_iconst (v := nI 1) hx hb d_M_store_156 (by decide) ?_
                  refine x_isub hx hb d_M_store_157 (by omega) ?_
                  refine rl_20 hx hb hK hI hB hw (by omega) d_M_store_158 (fun hv158 => ?_)
                  refine x_iload_n hx hb d_M_store_159 hl rfl ?_
                  refine m_calli (k_S ⟨hx, hb, hml, hown, hts⟩ hE hA hw (c_M_allowed (by omega)) (wm3 235 rfl rfl) (wm3 236 rfl rfl) (wm1 9 rfl rfl) (wm3 237 rfl rfl) rfl rfl ar_M_allowed ⟨Nat.le_trans (Nat.le_of_ble_eq_true rfl) hR.1, Nat.le_trans (Nat.le_of_ble_eq_true rfl) hR.2.1⟩ rfl hl.1 rfl (Nat.le_of_ble_eq_true rfl) d_M_store_160 ⟨Nat.le_trans (Nat.le_of_ble_eq_true rfl) hR.2.2.1, Nat.le_trans (Nat.le_of_ble_eq_true rfl) hR.2.2.2⟩) hw (mfr_in hw hA) (fun r160 M160 H locs hP160 hw => ?_)
                  obtain ⟨rfl, hM160⟩ := hP160
                  rw [hM160] at hw
                  refine x_icmp_ge hx hb d_M_store_163 rfl (by omega) (by omega) (fun h163 => ?_) (fun h163 => ?_)
                  · have h3f := st3_f hof (Or.inr h163)
                    refine lv_iconst (v := nI 0) hx hb d_M_store_170 (by decide) ?_
                    refine x_istore hx hb d_M_store_171 hl (Nat.le_of_ble_eq_true rfl) (lh_k (i := 5) rfl (by first | exact lk_n | exact lk_i | exact lk_r | exact lk_q | exact lk_0)) (fun ls hl => ?_)
                    have hS2 := hSn h13
                    first | refine x_aload_n hx hb d_M_store_173 hl rfl ?_ | refine x_aload_nQ hx hb d_M_store_173 hl rfl ?_
                    refine m_get hx hb hts hown hK hw ci_M (rf_at hI 0 (by decide) rfl) 17 (by decide) (wm3 89 rfl rfl) rfl d_M_store_174 ?_
                    first | refine x_aload_n hx hb d_M_store_177 hl rfl ?_ | refine x_aload_nQ hx hb d_M_store_177 hl rfl ?_
                    refine m_get (v := .int (nI (τ 16 0))) hx hb hts hown hK hw ci_M (rf_at hI 0 (by decide) rfl) 16 (by decide) (wm3 88 rfl rfl) rfl d_M_store_178 ?_
                    first | refine x_aload_n hx hb d_M_store_181 hl rfl ?_ | refine x_aload_nQ hx hb d_M_store_181 hl rfl ?_
                    refine m_get hx hb hts hown hK hw ci_M (rf_at hI 0 (by decide) rfl) 9 (by decide) (wm3 81 rfl rfl) rfl d_M_store_182 ?_
                    refine x_iload_n hx hb d_M_store_185 hl rfl ?_
                    refine rl_9 hx hb hK hI hw (by omega) d_M_store_186 ?_
                    refine rs_17 hx hb hK hI hB hw (by omega) d_M_store_187 (fun H locs hw hB => ?_)
                    first | refine x_aload_n hx hb d_M_store_188 hl rfl ?_ | refine x_aload_nQ hx hb d_M_store_188 hl rfl ?_
                    refine m_get hx hb hts hown hK hw ci_M (rf_at hI 0 (by decide) rfl) 18 (by decide) (wm3 90 rfl rfl) rfl d_M_store_189 ?_
                    first | refine x_aload_n hx hb d_M_store_192 hl rfl ?_ | refine x_aload_nQ hx hb d_M_store_192 hl rfl ?_
                    refine m_get (v := .int (nI (τ 16 0))) hx hb hts hown hK hw ci_M (rf_at hI 0 (by decide) rfl) 16 (by decide) (wm3 88 rfl rfl) rfl d_M_store_193 ?_
                    first | refine x_aload_n hx hb d_M_store_196 hl rfl ?_ | refine x_aload_nQ hx hb d_M_store_196 hl rfl ?_
                    refine m_get hx hb hts hown hK hw ci_M (rf_at hI 0 (by decide) rfl) 7 (by decide) (wm3 79 rfl rfl) rfl d_M_store_197 ?_
                    refine x_iload_n hx hb d_M_store_200 hl rfl ?_
                    refine rl_7 hx hb hK hI hB hw (by omega) d_M_store_201 (fun hv201 => ?_)
                    refine rs_18 hx hb hK hI hB hw (by omega) (show _ from h712 n) d_M_store_202 (fun H locs hw hB => ?_)
                    first | refine x_aload_n hx hb d_M_store_203 hl rfl ?_ | refine x_aload_nQ hx hb d_M_store_203 hl rfl ?_
                    refine m_get hx hb hts hown hK hw ci_M (rf_at hI 0 (by decide) rfl) 19 (by decide) (wm3 91 rfl rfl) rfl d_M_store_204 ?_
                    first | refine x_aload_n hx hb d_M_store_207 hl rfl ?_ | refine x_aload_nQ hx hb d_M_store_207 hl rfl ?_
                    refine m_get (v := .int (nI (τ 16 0))) hx hb hts hown hK hw ci_M (rf_at hI 0 (by decide) rfl) 16 (by decide) (wm3 88 rfl rfl) rfl d_M_store_208 ?_
                    refine x_iload hx hb d_M_store_211 hl rfl ?_
                    refine x_if_eq hx hb d_M_store_213 rfl (by omega) (fun h213 => ?_) (fun h213 => ?_)
                    · first
                        | exact absurd h213 (by omega)
                        | refine lv_iconst (v := nI 0) hx hb d_M_store_221 (by decide) ?_
                          first | refine x_i2s hx hb d_M_store_222 (by omega) ?_ | refine lv_i2s hx hb d_M_store_222 rfl ?_
                          refine rs_19 hx hb hK hI hB hw (by omega) (by omega) d_M_store_223 (fun H locs hw hB => ?_)
                          first | refine x_aload_n hx hb d_M_store_224 hl rfl ?_ | refine x_aload_nQ hx hb d_M_store_224 hl rfl ?_
                          refine m_get hx hb hts hown hK hw ci_M (rf_at hI 0 (by decide) rfl) 20 (by decide) (wm3 92 rfl rfl) rfl d_M_store_225 ?_
                          first | refine x_aload_n hx hb d_M_store_228 hl rfl ?_ | refine x_aload_nQ hx hb d_M_store_228 hl rfl ?_
                          refine m_get (v := .int (nI (τ 16 0))) hx hb hts hown hK hw ci_M (rf_at hI 0 (by decide) rfl) 16 (by decide) (wm3 88 rfl rfl) rfl d_M_store_229 ?_
                          refine x_iload hx hb d_M_store_232 hl rfl ?_
                          refine x_if_eq hx hb d_M_store_234 rfl (by omega) (fun h234 => ?_) (fun h234 => ?_)
                          · first
                              | exact absurd h234 (by omega)
                              | refine lv_iconst (v := nI 1) hx hb d_M_store_251 (by decide) ?_
                                first | refine x_i2b hx hb d_M_store_252 (by omega) ?_ | refine x_i2b hx hb d_M_store_252 (show _ from hch) ?_
                                first | refine rs_20 hx hb hK hI hB hw (by omega) (by omega) d_M_store_253 (fun H locs hw hB => ?_) | refine rs_20 hx hb hK hI hB hw (by omega) (show _ from hch) d_M_store_253 (fun H locs hw hB => ?_)
                                first | refine x_aload_n hx hb d_M_store_254 hl rfl ?_ | refine x_aload_nQ hx hb d_M_store_254 hl rfl ?_
                                first | refine lv_dup hx hb d_M_store_255 rfl ?_ | refine lv_dup hx hb d_M_store_255 (va_rf_c _) ?_
                                refine m_get (v := .int (nI (τ 16 0))) hx hb hts hown hK hw ci_M (rf_at hI 0 (by decide) rfl) 16 (by decide) (wm3 88 rfl rfl) rfl d_M_store_256 ?_
                                refine lv_iconst (v := nI 1) hx hb d_M_store_259 (by decide) ?_
                                first | refine x_iadd hx hb d_M_store_260 ?_ | refine lv_iadd hx hb d_M_store_260 ?_
                                refine rp_16 hx hb hts hown hK hI hB hw (wm3 88 rfl rfl) (by omega) d_M_store_261 (fun H locs hw hB => ?_)
                                first | refine x_aload_n hx hb d_M_store_264 hl rfl ?_ | refine x_aload_nQ hx hb d_M_store_264 hl rfl ?_
                                refine m_get hx hb hts hown hK hw ci_M (rf_at hI 0 (by decide) rfl) 15 (by decide) (wm3 87 rfl rfl) rfl d_M_store_265 ?_
                                refine x_iload_n hx hb d_M_store_268 hl rfl ?_
                                first | refine x_aload_n hx hb d_M_store_269 hl rfl ?_ | refine x_aload_nQ hx hb d_M_store_269 hl rfl ?_
                                refine m_get (v := .int (nI (τ 16 0 + 1))) hx hb hts hown hK hw ci_M (rf_at hI 0 (by decide) rfl) 16 (by decide) (wm3 88 rfl rfl) rfl d_M_store_270 ?_
                                first | refine x_i2s hx hb d_M_store_273 (by omega) ?_ | refine lv_i2s hx hb d_M_store_273 rfl ?_
                                refine rs_15 hx hb hK hI hB hw (by omega) (by omega) d_M_store_274 (fun H locs hw hB => ?_)
                                exact x_retv hQ hx hb hr hlk hw (by omega) (by omega) d_M_store_275 (by rw [hst2, st2_3 h13 h75, h3f]; exact ⟨rfl, hB⟩)
                          · first
                              | exact absurd h234 (by omega)
                              | first | refine x_aload_n hx hb d_M_store_237 hl rfl ?_ | refine x_aload_nQ hx hb d_M_store_237 hl rfl ?_
                                refine m_get hx hb hts hown hK hw ci_M (rf_at hI 0 (by decide) rfl) 20 (by decide) (wm3 92 rfl rfl) rfl d_M_store_238 ?_
                                refine x_iload hx hb d_M_store_241 hl rfl ?_
                                refine lv_iconst (v := nI 1) hx hb d_M_store_243 (by decide) ?_
                                refine x_isub hx hb d_M_store_244 (by omega) ?_
                                refine rl_20 hx hb hK hI hB hw (by omega) d_M_store_245 (fun hv245 => ?_)
                                refine lv_iconst (v := nI 1) hx hb d_M_store_246 (by decide) ?_
                                first | refine x_iadd hx hb d_M_store_247 ?_ | refine lv_iadd hx hb d_M_store_247 ?_
                                refine lv_goto hx hb d_M_store_248 rfl ?_
                                first | refine x_i2b hx hb d_M_store_252 (by omega) ?_ | refine x_i2b hx hb d_M_store_252 (show _ from hch) ?_
                                first | refine rs_20 hx hb hK hI hB hw (by omega) (by omega) d_M_store_253 (fun H locs hw hB => ?_) | refine rs_20 hx hb hK hI hB hw (by omega) (show _ from hch) d_M_store_253 (fun H locs hw hB => ?_)
                                first | refine x_aload_n hx hb d_M_store_254 hl rfl ?_ | refine x_aload_nQ hx hb d_M_store_254 hl rfl ?_
                                first | refine lv_dup hx hb d_M_store_255 rfl ?_ | refine lv_dup hx hb d_M_store_255 (va_rf_c _) ?_
                                refine m_get (v := .int (nI (τ 16 0))) hx hb hts hown hK hw ci_M (rf_at hI 0 (by decide) rfl) 16 (by decide) (wm3 88 rfl rfl) rfl d_M_store_256 ?_
                                refine lv_iconst (v := nI 1) hx hb d_M_store_259 (by decide) ?_
                                first | refine x_iadd hx hb d_M_store_260 ?_ | refine lv_iadd hx hb d_M_store_260 ?_
                                refine rp_16 hx hb hts hown hK hI hB hw (wm3 88 rfl rfl) (by omega) d_M_store_261 (fun H locs hw hB => ?_)
                                first | refine x_aload_n hx hb d_M_store_264 hl rfl ?_ | refine x_aload_nQ hx hb d_M_store_264 hl rfl ?_
                                refine m_get hx hb hts hown hK hw ci_M (rf_at hI 0 (by decide) rfl) 15 (by decide) (wm3 87 rfl rfl) rfl d_M_store_265 ?_
                                refine x_iload_n hx hb d_M_store_268 hl rfl ?_
                                first | refine x_aload_n hx hb d_M_store_269 hl rfl ?_ | refine x_aload_nQ hx hb d_M_store_269 hl rfl ?_
                                refine m_get (v := .int (nI (τ 16 0 + 1))) hx hb hts hown hK hw ci_M (rf_at hI 0 (by decide) rfl) 16 (by decide) (wm3 88 rfl rfl) rfl d_M_store_270 ?_
                                first | refine x_i2s hx hb d_M_store_273 (by omega) ?_ | refine lv_i2s hx hb d_M_store_273 rfl ?_
                                refine rs_15 hx hb hK hI hB hw (by omega) (by omega) d_M_store_274 (fun H locs hw hB => ?_)
                                exact x_retv hQ hx hb hr hlk hw (by omega) (by omega) d_M_store_275 (by rw [hst2, st2_3 h13 h75, h3f]; exact ⟨rfl, hB⟩)
                    · first
                        | exact absurd h213 (by omega)
                        | refine x_iload hx hb d_M_store_216 hl rfl ?_
                          refine lv_goto hx hb d_M_store_218 rfl ?_
                          first | refine x_i2s hx hb d_M_store_222 (by omega) ?_ | refine lv_i2s hx hb d_M_store_222 rfl ?_
                          refine rs_19 hx hb hK hI hB hw (by omega) (by omega) d_M_store_223 (fun H locs hw hB => ?_)
                          first | refine x_aload_n hx hb d_M_store_224 hl rfl ?_ | refine x_aload_nQ hx hb d_M_store_224 hl rfl ?_
                          refine m_get hx hb hts hown hK hw ci_M (rf_at hI 0 (by decide) rfl) 20 (by decide) (wm3 92 rfl rfl) rfl d_M_store_225 ?_
                          first | refine x_aload_n hx hb d_M_store_228 hl rfl ?_ | refine x_aload_nQ hx hb d_M_store_228 hl rfl ?_
                          refine m_get (v := .int (nI (τ 16 0))) hx hb hts hown hK hw ci_M (rf_at hI 0 (by decide) rfl) 16 (by decide) (wm3 88 rfl rfl) rfl d_M_store_229 ?_
                          refine x_iload hx hb d_M_store_232 hl rfl ?_
                          refine x_if_eq hx hb d_M_store_234 rfl (by omega) (fun h234 => ?_) (fun h234 => ?_)
                          · first
                              | exact absurd h234 (by omega)
                              | refine lv_iconst (v := nI 1) hx hb d_M_store_251 (by decide) ?_
                                first | refine x_i2b hx hb d_M_store_252 (by omega) ?_ | refine x_i2b hx hb d_M_store_252 (show _ from hch) ?_
                                first | refine rs_20 hx hb hK hI hB hw (by omega) (by omega) d_M_store_253 (fun H locs hw hB => ?_) | refine rs_20 hx hb hK hI hB hw (by omega) (show _ from hch) d_M_store_253 (fun H locs hw hB => ?_)
                                first | refine x_aload_n hx hb d_M_store_254 hl rfl ?_ | refine x_aload_nQ hx hb d_M_store_254 hl rfl ?_
                                first | refine lv_dup hx hb d_M_store_255 rfl ?_ | refine lv_dup hx hb d_M_store_255 (va_rf_c _) ?_
                                refine m_get (v := .int (nI (τ 16 0))) hx hb hts hown hK hw ci_M (rf_at hI 0 (by decide) rfl) 16 (by decide) (wm3 88 rfl rfl) rfl d_M_store_256 ?_
                                refine lv_iconst (v := nI 1) hx hb d_M_store_259 (by decide) ?_
                                first | refine x_iadd hx hb d_M_store_260 ?_ | refine lv_iadd hx hb d_M_store_260 ?_
                                refine rp_16 hx hb hts hown hK hI hB hw (wm3 88 rfl rfl) (by omega) d_M_store_261 (fun H locs hw hB => ?_)
                                first | refine x_aload_n hx hb d_M_store_264 hl rfl ?_ | refine x_aload_nQ hx hb d_M_store_264 hl rfl ?_
                                refine m_get hx hb hts hown hK hw ci_M (rf_at hI 0 (by decide) rfl) 15 (by decide) (wm3 87 rfl rfl) rfl d_M_store_265 ?_
                                refine x_iload_n hx hb d_M_store_268 hl rfl ?_
                                first | refine x_aload_n hx hb d_M_store_269 hl rfl ?_ | refine x_aload_nQ hx hb d_M_store_269 hl rfl ?_
                                refine m_get (v := .int (nI (τ 16 0 + 1))) hx hb hts hown hK hw ci_M (rf_at hI 0 (by decide) rfl) 16 (by decide) (wm3 88 rfl rfl) rfl d_M_store_270 ?_
                                first | refine x_i2s hx hb d_M_store_273 (by omega) ?_ | refine lv_i2s hx hb d_M_store_273 rfl ?_
                                refine rs_15 hx hb hK hI hB hw (by omega) (by omega) d_M_store_274 (fun H locs hw hB => ?_)
                                exact x_retv hQ hx hb hr hlk hw (by omega) (by omega) d_M_store_275 (by rw [hst2, st2_3 h13 h75, h3f]; exact ⟨rfl, hB⟩)
                          · first
                              | exact absurd h234 (by omega)
                              | first | refine x_aload_n hx hb d_M_store_237 hl rfl ?_ | refine x_aload_nQ hx hb d_M_store_237 hl rfl ?_
                                refine m_get hx hb hts hown hK hw ci_M (rf_at hI 0 (by decide) rfl) 20 (by decide) (wm3 92 rfl rfl) rfl d_M_store_238 ?_
                                refine x_iload hx hb d_M_store_241 hl rfl ?_
                                refine lv_iconst (v := nI 1) hx hb d_M_store_243 (by decide) ?_
                                refine x_isub hx hb d_M_store_244 (by omega) ?_
                                refine rl_20 hx hb hK hI hB hw (by omega) d_M_store_245 (fun hv245 => ?_)
                                refine lv_iconst (v := nI 1) hx hb d_M_store_246 (by decide) ?_
                                first | refine x_iadd hx hb d_M_store_247 ?_ | refine lv_iadd hx hb d_M_store_247 ?_
                                refine lv_goto hx hb d_M_store_248 rfl ?_
                                first | refine x_i2b hx hb d_M_store_252 (by omega) ?_ | refine x_i2b hx hb d_M_store_252 (show _ from hch) ?_
                                first | refine rs_20 hx hb hK hI hB hw (by omega) (by omega) d_M_store_253 (fun H locs hw hB => ?_) | refine rs_20 hx hb hK hI hB hw (by omega) (show _ from hch) d_M_store_253 (fun H locs hw hB => ?_)
                                first | refine x_aload_n hx hb d_M_store_254 hl rfl ?_ | refine x_aload_nQ hx hb d_M_store_254 hl rfl ?_
                                first | refine lv_dup hx hb d_M_store_255 rfl ?_ | refine lv_dup hx hb d_M_store_255 (va_rf_c _) ?_
                                refine m_get (v := .int (nI (τ 16 0))) hx hb hts hown hK hw ci_M (rf_at hI 0 (by decide) rfl) 16 (by decide) (wm3 88 rfl rfl) rfl d_M_store_256 ?_
                                refine lv_iconst (v := nI 1) hx hb d_M_store_259 (by decide) ?_
                                first | refine x_iadd hx hb d_M_store_260 ?_ | refine lv_iadd hx hb d_M_store_260 ?_
                                refine rp_16 hx hb hts hown hK hI hB hw (wm3 88 rfl rfl) (by omega) d_M_store_261 (fun H locs hw hB => ?_)
                                first | refine x_aload_n hx hb d_M_store_264 hl rfl ?_ | refine x_aload_nQ hx hb d_M_store_264 hl rfl ?_
                                refine m_get hx hb hts hown hK hw ci_M (rf_at hI 0 (by decide) rfl) 15 (by decide) (wm3 87 rfl rfl) rfl d_M_store_265 ?_
                                refine x_iload_n hx hb d_M_store_268 hl rfl ?_
                                first | refine x_aload_n hx hb d_M_store_269 hl rfl ?_ | refine x_aload_nQ hx hb d_M_store_269 hl rfl ?_
                                refine m_get (v := .int (nI (τ 16 0 + 1))) hx hb hts hown hK hw ci_M (rf_at hI 0 (by decide) rfl) 16 (by decide) (wm3 88 rfl rfl) rfl d_M_store_270 ?_
                                first | refine x_i2s hx hb d_M_store_273 (by omega) ?_ | refine lv_i2s hx hb d_M_store_273 rfl ?_
                                refine rs_15 hx hb hK hI hB hw (by omega) (by omega) d_M_store_274 (fun H locs hw hB => ?_)
                                exact x_retv hQ hx hb hr hlk hw (by omega) (by omega) d_M_store_275 (by rw [hst2, st2_3 h13 h75, h3f]; exact ⟨rfl, hB⟩)
                  · have h3f := st3_t hof h147 h163
                    have hch : τ 20 (τ 15 a - 1) + 1 < 128 := by omega
                    refine lv_iconst (v := nI 1) hx hb d_M_store_166 (by decide) ?_
                    refine lv_goto hx hb d_M_store_167 rfl ?_
                    refine x_istore hx hb d_M_store_171 hl (Nat.le_of_ble_eq_true rfl) (lh_k (i := 5) rfl (by first | exact lk_n | exact lk_i | exact lk_r | exact lk_q | exact lk_0)) (fun ls hl => ?_)
                    have hS2 := hSn h13
                    first | refine x_aload_n hx hb d_M_store_173 hl rfl ?_ | refine x_aload_nQ hx hb d_M_store_173 hl rfl ?_
                    refine m_get hx hb hts hown hK hw ci_M (rf_at hI 0 (by decide) rfl) 17 (by decide) (wm3 89 rfl rfl) rfl d_M_store_174 ?_
                    first | refine x_aload_n hx hb d_M_store_177 hl rfl ?_ | refine x_aload_nQ hx hb d_M_store_177 hl rfl ?_
                    refine m_get (v := .int (nI (τ 16 0))) hx hb hts hown hK hw ci_M (rf_at hI 0 (by decide) rfl) 16 (by decide) (wm3 88 rfl rfl) rfl d_M_store_178 ?_
                    first | refine x_aload_n hx hb d_M_store_181 hl rfl ?_ | refine x_aload_nQ hx hb d_M_store_181 hl rfl ?_
                    refine m_get hx hb hts hown hK hw ci_M (rf_at hI 0 (by decide) rfl) 9 (by decide) (wm3 81 rfl rfl) rfl d_M_store_182 ?_
                    refine x_iload_n hx hb d_M_store_185 hl rfl ?_
                    refine rl_9 hx hb hK hI hw (by omega) d_M_store_186 ?_
                    refine rs_17 hx hb hK hI hB hw (by omega) d_M_store_187 (fun H locs hw hB => ?_)
                    first | refine x_aload_n hx hb d_M_store_188 hl rfl ?_ | refine x_aload_nQ hx hb d_M_store_188 hl rfl ?_
                    refine m_get hx hb hts hown hK hw ci_M (rf_at hI 0 (by decide) rfl) 18 (by decide) (wm3 90 rfl rfl) rfl d_M_store_189 ?_
                    first | refine x_aload_n hx hb d_M_store_192 hl rfl ?_ | refine x_aload_nQ hx hb d_M_store_192 hl rfl ?_
                    refine m_get (v := .int (nI (τ 16 0))) hx hb hts hown hK hw ci_M (rf_at hI 0 (by decide) rfl) 16 (by decide) (wm3 88 rfl rfl) rfl d_M_store_193 ?_
                    first | refine x_aload_n hx hb d_M_store_196 hl rfl ?_ | refine x_aload_nQ hx hb d_M_store_196 hl rfl ?_
                    refine m_get hx hb hts hown hK hw ci_M (rf_at hI 0 (by decide) rfl) 7 (by decide) (wm3 79 rfl rfl) rfl d_M_store_197 ?_
                    refine x_iload_n hx hb d_M_store_200 hl rfl ?_
                    refine rl_7 hx hb hK hI hB hw (by omega) d_M_store_201 (fun hv201 => ?_)
                    refine rs_18 hx hb hK hI hB hw (by omega) (show _ from h712 n) d_M_store_202 (fun H locs hw hB => ?_)
                    first | refine x_aload_n hx hb d_M_store_203 hl rfl ?_ | refine x_aload_nQ hx hb d_M_store_203 hl rfl ?_
                    refine m_get hx hb hts hown hK hw ci_M (rf_at hI 0 (by decide) rfl) 19 (by decide) (wm3 91 rfl rfl) rfl d_M_store_204 ?_
                    first | refine x_aload_n hx hb d_M_store_207 hl rfl ?_ | refine x_aload_nQ hx hb d_M_store_207 hl rfl ?_
                    refine m_get (v := .int (nI (τ 16 0))) hx hb hts hown hK hw ci_M (rf_at hI 0 (by decide) rfl) 16 (by decide) (wm3 88 rfl rfl) rfl d_M_store_208 ?_
                    refine x_iload hx hb d_M_store_211 hl rfl ?_
                    refine x_if_eq hx hb d_M_store_213 rfl (by omega) (fun h213 => ?_) (fun h213 => ?_)
                    · first
                        | exact absurd h213 (by omega)
                        | refine lv_iconst (v := nI 0) hx hb d_M_store_221 (by decide) ?_
                          first | refine x_i2s hx hb d_M_store_222 (by omega) ?_ | refine lv_i2s hx hb d_M_store_222 rfl ?_
                          refine rs_19 hx hb hK hI hB hw (by omega) (by omega) d_M_store_223 (fun H locs hw hB => ?_)
                          first | refine x_aload_n hx hb d_M_store_224 hl rfl ?_ | refine x_aload_nQ hx hb d_M_store_224 hl rfl ?_
                          refine m_get hx hb hts hown hK hw ci_M (rf_at hI 0 (by decide) rfl) 20 (by decide) (wm3 92 rfl rfl) rfl d_M_store_225 ?_
                          first | refine x_aload_n hx hb d_M_store_228 hl rfl ?_ | refine x_aload_nQ hx hb d_M_store_228 hl rfl ?_
                          refine m_get (v := .int (nI (τ 16 0))) hx hb hts hown hK hw ci_M (rf_at hI 0 (by decide) rfl) 16 (by decide) (wm3 88 rfl rfl) rfl d_M_store_229 ?_
                          refine x_iload hx hb d_M_store_232 hl rfl ?_
                          refine x_if_eq hx hb d_M_store_234 rfl (by omega) (fun h234 => ?_) (fun h234 => ?_)
                          · first
                              | exact absurd h234 (by omega)
                              | refine lv_iconst (v := nI 1) hx hb d_M_store_251 (by decide) ?_
                                first | refine x_i2b hx hb d_M_store_252 (by omega) ?_ | refine x_i2b hx hb d_M_store_252 (show _ from hch) ?_
                                first | refine rs_20 hx hb hK hI hB hw (by omega) (by omega) d_M_store_253 (fun H locs hw hB => ?_) | refine rs_20 hx hb hK hI hB hw (by omega) (show _ from hch) d_M_store_253 (fun H locs hw hB => ?_)
                                first | refine x_aload_n hx hb d_M_store_254 hl rfl ?_ | refine x_aload_nQ hx hb d_M_store_254 hl rfl ?_
                                first | refine lv_dup hx hb d_M_store_255 rfl ?_ | refine lv_dup hx hb d_M_store_255 (va_rf_c _) ?_
                                refine m_get (v := .int (nI (τ 16 0))) hx hb hts hown hK hw ci_M (rf_at hI 0 (by decide) rfl) 16 (by decide) (wm3 88 rfl rfl) rfl d_M_store_256 ?_
                                refine lv_iconst (v := nI 1) hx hb d_M_store_259 (by decide) ?_
                                first | refine x_iadd hx hb d_M_store_260 ?_ | refine lv_iadd hx hb d_M_store_260 ?_
                                refine rp_16 hx hb hts hown hK hI hB hw (wm3 88 rfl rfl) (by omega) d_M_store_261 (fun H locs hw hB => ?_)
                                first | refine x_aload_n hx hb d_M_store_264 hl rfl ?_ | refine x_aload_nQ hx hb d_M_store_264 hl rfl ?_
                                refine m_get hx hb hts hown hK hw ci_M (rf_at hI 0 (by decide) rfl) 15 (by decide) (wm3 87 rfl rfl) rfl d_M_store_265 ?_
                                refine x_iload_n hx hb d_M_store_268 hl rfl ?_
                                first | refine x_aload_n hx hb d_M_store_269 hl rfl ?_ | refine x_aload_nQ hx hb d_M_store_269 hl rfl ?_
                                refine m_get (v := .int (nI (τ 16 0 + 1))) hx hb hts hown hK hw ci_M (rf_at hI 0 (by decide) rfl) 16 (by decide) (wm3 88 rfl rfl) rfl d_M_store_270 ?_
                                first | refine x_i2s hx hb d_M_store_273 (by omega) ?_ | refine lv_i2s hx hb d_M_store_273 rfl ?_
                                refine rs_15 hx hb hK hI hB hw (by omega) (by omega) d_M_store_274 (fun H locs hw hB => ?_)
                                exact x_retv hQ hx hb hr hlk hw (by omega) (by omega) d_M_store_275 (by rw [hst2, st2_3 h13 h75, h3f]; exact ⟨rfl, hB⟩)
                          · first
                              | exact absurd h234 (by omega)
                              | first | refine x_aload_n hx hb d_M_store_237 hl rfl ?_ | refine x_aload_nQ hx hb d_M_store_237 hl rfl ?_
                                refine m_get hx hb hts hown hK hw ci_M (rf_at hI 0 (by decide) rfl) 20 (by decide) (wm3 92 rfl rfl) rfl d_M_store_238 ?_
                                refine x_iload hx hb d_M_store_241 hl rfl ?_
                                refine lv_iconst (v := nI 1) hx hb d_M_store_243 (by decide) ?_
                                refine x_isub hx hb d_M_store_244 (by omega) ?_
                                refine rl_20 hx hb hK hI hB hw (by omega) d_M_store_245 (fun hv245 => ?_)
                                refine lv_iconst (v := nI 1) hx hb d_M_store_246 (by decide) ?_
                                first | refine x_iadd hx hb d_M_store_247 ?_ | refine lv_iadd hx hb d_M_store_247 ?_
                                refine lv_goto hx hb d_M_store_248 rfl ?_
                                first | refine x_i2b hx hb d_M_store_252 (by omega) ?_ | refine x_i2b hx hb d_M_store_252 (show _ from hch) ?_
                                first | refine rs_20 hx hb hK hI hB hw (by omega) (by omega) d_M_store_253 (fun H locs hw hB => ?_) | refine rs_20 hx hb hK hI hB hw (by omega) (show _ from hch) d_M_store_253 (fun H locs hw hB => ?_)
                                first | refine x_aload_n hx hb d_M_store_254 hl rfl ?_ | refine x_aload_nQ hx hb d_M_store_254 hl rfl ?_
                                first | refine lv_dup hx hb d_M_store_255 rfl ?_ | refine lv_dup hx hb d_M_store_255 (va_rf_c _) ?_
                                refine m_get (v := .int (nI (τ 16 0))) hx hb hts hown hK hw ci_M (rf_at hI 0 (by decide) rfl) 16 (by decide) (wm3 88 rfl rfl) rfl d_M_store_256 ?_
                                refine lv_iconst (v := nI 1) hx hb d_M_store_259 (by decide) ?_
                                first | refine x_iadd hx hb d_M_store_260 ?_ | refine lv_iadd hx hb d_M_store_260 ?_
                                refine rp_16 hx hb hts hown hK hI hB hw (wm3 88 rfl rfl) (by omega) d_M_store_261 (fun H locs hw hB => ?_)
                                first | refine x_aload_n hx hb d_M_store_264 hl rfl ?_ | refine x_aload_nQ hx hb d_M_store_264 hl rfl ?_
                                refine m_get hx hb hts hown hK hw ci_M (rf_at hI 0 (by decide) rfl) 15 (by decide) (wm3 87 rfl rfl) rfl d_M_store_265 ?_
                                refine x_iload_n hx hb d_M_store_268 hl rfl ?_
                                first | refine x_aload_n hx hb d_M_store_269 hl rfl ?_ | refine x_aload_nQ hx hb d_M_store_269 hl rfl ?_
                                refine m_get (v := .int (nI (τ 16 0 + 1))) hx hb hts hown hK hw ci_M (rf_at hI 0 (by decide) rfl) 16 (by decide) (wm3 88 rfl rfl) rfl d_M_store_270 ?_
                                first | refine x_i2s hx hb d_M_store_273 (by omega) ?_ | refine lv_i2s hx hb d_M_store_273 rfl ?_
                                refine rs_15 hx hb hK hI hB hw (by omega) (by omega) d_M_store_274 (fun H locs hw hB => ?_)
                                exact x_retv hQ hx hb hr hlk hw (by omega) (by omega) d_M_store_275 (by rw [hst2, st2_3 h13 h75, h3f]; exact ⟨rfl, hB⟩)
                    · first
                        | exact absurd h213 (by omega)
                        | refine x_iload hx hb d_M_store_216 hl rfl ?_
                          refine lv_goto hx hb d_M_store_218 rfl ?_
                          first | refine x_i2s hx hb d_M_store_222 (by omega) ?_ | refine lv_i2s hx hb d_M_store_222 rfl ?_
                          refine rs_19 hx hb hK hI hB hw (by omega) (by omega) d_M_store_223 (fun H locs hw hB => ?_)
                          first | refine x_aload_n hx hb d_M_store_224 hl rfl ?_ | refine x_aload_nQ hx hb d_M_store_224 hl rfl ?_
                          refine m_get hx hb hts hown hK hw ci_M (rf_at hI 0 (by decide) rfl) 20 (by decide) (wm3 92 rfl rfl) rfl d_M_store_225 ?_
                          first | refine x_aload_n hx hb d_M_store_228 hl rfl ?_ | refine x_aload_nQ hx hb d_M_store_228 hl rfl ?_
                          refine m_get (v := .int (nI (τ 16 0))) hx hb hts hown hK hw ci_M (rf_at hI 0 (by decide) rfl) 16 (by decide) (wm3 88 rfl rfl) rfl d_M_store_229 ?_
                          refine x_iload hx hb d_M_store_232 hl rfl ?_
                          refine x_if_eq hx hb d_M_store_234 rfl (by omega) (fun h234 => ?_) (fun h234 => ?_)
                          · first
                              | exact absurd h234 (by omega)
                              | refine lv_iconst (v := nI 1) hx hb d_M_store_251 (by decide) ?_
                                first | refine x_i2b hx hb d_M_store_252 (by omega) ?_ | refine x_i2b hx hb d_M_store_252 (show _ from hch) ?_
                                first | refine rs_20 hx hb hK hI hB hw (by omega) (by omega) d_M_store_253 (fun H locs hw hB => ?_) | refine rs_20 hx hb hK hI hB hw (by omega) (show _ from hch) d_M_store_253 (fun H locs hw hB => ?_)
                                first | refine x_aload_n hx hb d_M_store_254 hl rfl ?_ | refine x_aload_nQ hx hb d_M_store_254 hl rfl ?_
                                first | refine lv_dup hx hb d_M_store_255 rfl ?_ | refine lv_dup hx hb d_M_store_255 (va_rf_c _) ?_
                                refine m_get (v := .int (nI (τ 16 0))) hx hb hts hown hK hw ci_M (rf_at hI 0 (by decide) rfl) 16 (by decide) (wm3 88 rfl rfl) rfl d_M_store_256 ?_
                                refine lv_iconst (v := nI 1) hx hb d_M_store_259 (by decide) ?_
                                first | refine x_iadd hx hb d_M_store_260 ?_ | refine lv_iadd hx hb d_M_store_260 ?_
                                refine rp_16 hx hb hts hown hK hI hB hw (wm3 88 rfl rfl) (by omega) d_M_store_261 (fun H locs hw hB => ?_)
                                first | refine x_aload_n hx hb d_M_store_264 hl rfl ?_ | refine x_aload_nQ hx hb d_M_store_264 hl rfl ?_
                                refine m_get hx hb hts hown hK hw ci_M (rf_at hI 0 (by decide) rfl) 15 (by decide) (wm3 87 rfl rfl) rfl d_M_store_265 ?_
                                refine x_iload_n hx hb d_M_store_268 hl rfl ?_
                                first | refine x_aload_n hx hb d_M_store_269 hl rfl ?_ | refine x_aload_nQ hx hb d_M_store_269 hl rfl ?_
                                refine m_get (v := .int (nI (τ 16 0 + 1))) hx hb hts hown hK hw ci_M (rf_at hI 0 (by decide) rfl) 16 (by decide) (wm3 88 rfl rfl) rfl d_M_store_270 ?_
                                first | refine x_i2s hx hb d_M_store_273 (by omega) ?_ | refine lv_i2s hx hb d_M_store_273 rfl ?_
                                refine rs_15 hx hb hK hI hB hw (by omega) (by omega) d_M_store_274 (fun H locs hw hB => ?_)
                                exact x_retv hQ hx hb hr hlk hw (by omega) (by omega) d_M_store_275 (by rw [hst2, st2_3 h13 h75, h3f]; exact ⟨rfl, hB⟩)
                          · first
                              | exact absurd h234 (by omega)
                              | first | refine x_aload_n hx hb d_M_store_237 hl rfl ?_ | refine x_aload_nQ hx hb d_M_store_237 hl rfl ?_
                                refine m_get hx hb hts hown hK hw ci_M (rf_at hI 0 (by decide) rfl) 20 (by decide) (wm3 92 rfl rfl) rfl d_M_store_238 ?_
                                refine x_iload hx hb d_M_store_241 hl rfl ?_
                                refine lv_iconst (v := nI 1) hx hb d_M_store_243 (by decide) ?_
                                refine x_isub hx hb d_M_store_244 (by omega) ?_
                                refine rl_20 hx hb hK hI hB hw (by omega) d_M_store_245 (fun hv245 => ?_)
                                refine lv_iconst (v := nI 1) hx hb d_M_store_246 (by decide) ?_
                                first | refine x_iadd hx hb d_M_store_247 ?_ | refine lv_iadd hx hb d_M_store_247 ?_
                                refine lv_goto hx hb d_M_store_248 rfl ?_
                                first | refine x_i2b hx hb d_M_store_252 (by omega) ?_ | refine x_i2b hx hb d_M_store_252 (show _ from hch) ?_
                                first | refine rs_20 hx hb hK hI hB hw (by omega) (by omega) d_M_store_253 (fun H locs hw hB => ?_) | refine rs_20 hx hb hK hI hB hw (by omega) (show _ from hch) d_M_store_253 (fun H locs hw hB => ?_)
                                first | refine x_aload_n hx hb d_M_store_254 hl rfl ?_ | refine x_aload_nQ hx hb d_M_store_254 hl rfl ?_
                                first | refine lv_dup hx hb d_M_store_255 rfl ?_ | refine lv_dup hx hb d_M_store_255 (va_rf_c _) ?_
                                refine m_get (v := .int (nI (τ 16 0))) hx hb hts hown hK hw ci_M (rf_at hI 0 (by decide) rfl) 16 (by decide) (wm3 88 rfl rfl) rfl d_M_store_256 ?_
                                refine lv_iconst (v := nI 1) hx hb d_M_store_259 (by decide) ?_
                                first | refine x_iadd hx hb d_M_store_260 ?_ | refine lv_iadd hx hb d_M_store_260 ?_
                                refine rp_16 hx hb hts hown hK hI hB hw (wm3 88 rfl rfl) (by omega) d_M_store_261 (fun H locs hw hB => ?_)
                                first | refine x_aload_n hx hb d_M_store_264 hl rfl ?_ | refine x_aload_nQ hx hb d_M_store_264 hl rfl ?_
                                refine m_get hx hb hts hown hK hw ci_M (rf_at hI 0 (by decide) rfl) 15 (by decide) (wm3 87 rfl rfl) rfl d_M_store_265 ?_
                                refine x_iload_n hx hb d_M_store_268 hl rfl ?_
                                first | refine x_aload_n hx hb d_M_store_269 hl rfl ?_ | refine x_aload_nQ hx hb d_M_store_269 hl rfl ?_
                                refine m_get (v := .int (nI (τ 16 0 + 1))) hx hb hts hown hK hw ci_M (rf_at hI 0 (by decide) rfl) 16 (by decide) (wm3 88 rfl rfl) rfl d_M_store_270 ?_
                                first | refine x_i2s hx hb d_M_store_273 (by omega) ?_ | refine lv_i2s hx hb d_M_store_273 rfl ?_
                                refine rs_15 hx hb hK hI hB hw (by omega) (by omega) d_M_store_274 (fun H locs hw hB => ?_)
                                exact x_retv hQ hx hb hr hlk hw (by omega) (by omega) d_M_store_275 (by rw [hst2, st2_3 h13 h75, h3f]; exact ⟨rfl, hB⟩)
      · exact absurd h99 (by omega)
    | succ u ih =>
      intro k a H locs ls hku ha13 hw hl hT h13 h75
      refine x_iload hx hb d_M_store_96 hl rfl ?_
      refine x_iload_n hx hb d_M_store_98 hl rfl ?_
      refine x_icmp_ge hx hb d_M_store_99 rfl (by omega) (by omega) (fun h99 => ?_) (fun h99 => ?_)
      · exact absurd h99 (by omega)
      · first | refine x_aload_n hx hb d_M_store_102 hl rfl ?_ | refine x_aload_nQ hx hb d_M_store_102 hl rfl ?_
        refine m_get hx hb hts hown hK hw ci_M (rf_at hI 0 (by decide) rfl) 13 (by decide) (wm3 85 rfl rfl) rfl d_M_store_103 ?_
        refine x_iload hx hb d_M_store_106 hl rfl ?_
        refine rl_13 hx hb hK hI hB hw (by omega) d_M_store_108 (fun hv108 => ?_)
        refine x_istore hx hb d_M_store_109 hl (Nat.le_of_ble_eq_true rfl) (lh_k (i := 3) rfl (by first | exact lk_n | exact lk_i | exact lk_r | exact lk_q | exact lk_0)) (fun ls hl => ?_)
        refine x_iincN hx hb d_M_store_111 hl rfl (lh_k (i := 4) rfl (by first | exact lk_n | exact lk_i | exact lk_r | exact lk_q | exact lk_0)) (fun ls hl => ?_)
        refine lv_goto hx hb d_M_store_114 rfl ?_
        exact ih (k + 1) _ H locs ls (by omega) (h1300 _) hw hl hT h13 h75
  have loop1 : ∀ (u k : Nat) (H : Heap) (locs : List Loc) (ls : Array Slot), k + u = τ 16 0 → mw E.1 vwCl A s.heap (rfM E τ ad) H locs → lh ls [some (.ref (ad 0)), some (.int (nI n)), some (.int (nI k)), none, none, none, none] → eqf τ n u k = eqf τ n (τ 16 0) 0 → τ 7 n ≠ 0 → W p l e R s m ag below meth c H locs 0 0 Q (F0 m 19 ls []) := by
    intro u
    induction u with
    | zero =>
      intro k H locs ls hku hw hl hT h13
      refine x_iload_n hx hb d_M_store_19 hl rfl ?_
      first | refine x_aload_n hx hb d_M_store_20 hl rfl ?_ | refine x_aload_nQ hx hb d_M_store_20 hl rfl ?_
      refine m_get (v := .int (nI (τ 16 0))) hx hb hts hown hK hw ci_M (rf_at hI 0 (by decide) rfl) 16 (by decide) (wm3 88 rfl rfl) rfl d_M_store_21 ?_
      refine x_icmp_ge hx hb d_M_store_24 rfl (by omega) (by omega) (fun h24 => ?_) (fun h24 => ?_)
      · have h75 : eqf τ n (τ 16 0) 0 = τ 16 0 := by rw [← hT]; show k = _; omega
        first | refine x_aload_n hx hb d_M_store_75 hl rfl ?_ | refine x_aload_nQ hx hb d_M_store_75 hl rfl ?_
        refine m_get hx hb hts hown hK hw ci_M (rf_at hI 0 (by decide) rfl) 11 (by decide) (wm3 83 rfl rfl) rfl d_M_store_76 ?_
        refine x_iload_n hx hb d_M_store_79 hl rfl ?_
        refine rl_11 hx hb hK hI hB hw (by omega) d_M_store_80 (fun hv80 => ?_)
        refine x_istore_n hx hb d_M_store_81 hl (Nat.le_of_ble_eq_true rfl) (lh_k (i := 1) rfl (by first | exact lk_n | exact lk_i | exact lk_r | exact lk_q | exact lk_0)) (fun ls hl => ?_)
        refine x_iload_n hx hb d_M_store_82 hl rfl ?_
        refine x_iload_n hx hb d_M_store_83 hl rfl ?_
        refine x_iload_n hx hb d_M_store_84 hl rfl ?_
        refine lv_iconst (v := nI 1) hx hb d_M_store_85 (by decide) ?_
        rcases Nat.eq_zero_or_pos (τ 11 n) with hz | hz
        · refine lv_isub hx hb d_M_store_86 ?_
          rw [hz, show nI 0 - nI 1 = (-1 : Int32) by decide]
          first | (refine lv_iand hx hb d_M_store_87 ?_; rw [show nI 0 &&& (-1 : Int32) = nI 0 by decide]) | (refine lv_iand hx hb d_M_store_87 ?_; rw [nx_nd])
          have hle : τ 11 n &&& (τ 11 n - 1) ≤ τ 11 n := Nat.and_le_left
          first | (rw [hz] at hle; refine x_isub hx hb d_M_store_88 (by omega) ?_) | refine x_isub hx hb d_M_store_88 (by omega) ?_
          refine x_istore_n hx hb d_M_store_89 hl (Nat.le_of_ble_eq_true rfl) (lh_k (i := 2) rfl (by first | exact lk_n | exact lk_i | exact lk_r | exact lk_q | exact lk_0)) (fun ls hl => ?_)
          refine x_iload_n hx hb d_M_store_90 hl rfl ?_
          refine x_istore hx hb d_M_store_91 hl (Nat.le_of_ble_eq_true rfl) (lh_k (i := 3) rfl (by first | exact lk_n | exact lk_i | exact lk_r | exact lk_q | exact lk_0)) (fun ls hl => ?_)
          refine lv_iconst (v := nI 0) hx hb d_M_store_93 (by decide) ?_
          refine x_istore hx hb d_M_store_94 hl (Nat.le_of_ble_eq_true rfl) (lh_k (i := 4) rfl (by first | exact lk_n | exact lk_i | exact lk_r | exact lk_q | exact lk_0)) (fun ls hl => ?_)
          first | exact loop2 (frb (τ 11 n)) 0 n _ _ _ (by omega) hn hw hl rfl h13 h75 | (have hl2 : lh ls [some (.ref (ad 0)), some (.int (nI n)), some (.int (nI (τ 11 n))), some (.int (nI (frb (τ 11 n)))), some (.int (nI n)), some (.int (nI 0)), none] := (by rw [hz, frb_0]; rw [hz] at hl; exact hl); exact loop2 (frb (τ 11 n)) 0 n _ _ _ (by omega) hn hw hl2 rfl h13 h75)
        · refine x_isub hx hb d_M_store_86 (by omega) ?_
          first | (refine lv_iand hx hb d_M_store_87 ?_; rw [show nI 0 &&& (-1 : Int32) = nI 0 by decide]) | (refine lv_iand hx hb d_M_store_87 ?_; rw [nx_nd])
          have hle : τ 11 n &&& (τ 11 n - 1) ≤ τ 11 n := Nat.and_le_left
          first | (rw [hz] at hle; refine x_isub hx hb d_M_store_88 (by omega) ?_) | refine x_isub hx hb d_M_store_88 (by omega) ?_
          refine x_istore_n hx hb d_M_store_89 hl (Nat.le_of_ble_eq_true rfl) (lh_k (i := 2) rfl (by first | exact lk_n | exact lk_i | exact lk_r | exact lk_q | exact lk_0)) (fun ls hl => ?_)
          refine x_iload_n hx hb d_M_store_90 hl rfl ?_
          refine x_istore hx hb d_M_store_91 hl (Nat.le_of_ble_eq_true rfl) (lh_k (i := 3) rfl (by first | exact lk_n | exact lk_i | exact lk_r | exact lk_q | exact lk_0)) (fun ls hl => ?_)
          refine lv_iconst (v := nI 0) hx hb d_M_store_93 (by decide) ?_
          refine x_istore hx hb d_M_store_94 hl (Nat.le_of_ble_eq_true rfl) (lh_k (i := 4) rfl (by first | exact lk_n | exact lk_i | exact lk_r | exact lk_q | exact lk_0)) (fun ls hl => ?_)
          first | exact loop2 (frb (τ 11 n)) 0 n _ _ _ (by omega) hn hw hl rfl h13 h75 | (have hl2 : lh ls [some (.ref (ad 0)), some (.int (nI n)), some (.int (nI (τ 11 n))), some (.int (nI (frb (τ 11 n)))), some (.int (nI n)), some (.int (nI 0)), none] := (by rw [hz, frb_0]; rw [hz] at hl; exact hl); exact loop2 (frb (τ 11 n)) 0 n _ _ _ (by omega) hn hw hl2 rfl h13 h75)
      · exact absurd h24 (by omega)
    | succ u ih =>
      intro k H locs ls hku hw hl hT h13
      refine x_iload_n hx hb d_M_store_19 hl rfl ?_
      first | refine x_aload_n hx hb d_M_store_20 hl rfl ?_ | refine x_aload_nQ hx hb d_M_store_20 hl rfl ?_
      refine m_get (v := .int (nI (τ 16 0))) hx hb hts hown hK hw ci_M (rf_at hI 0 (by decide) rfl) 16 (by decide) (wm3 88 rfl rfl) rfl d_M_store_21 ?_
      refine x_icmp_ge hx hb d_M_store_24 rfl (by omega) (by omega) (fun h24 => ?_) (fun h24 => ?_)
      · exact absurd h24 (by omega)
      · first | refine x_aload_n hx hb d_M_store_27 hl rfl ?_ | refine x_aload_nQ hx hb d_M_store_27 hl rfl ?_
        refine m_get hx hb hts hown hK hw ci_M (rf_at hI 0 (by decide) rfl) 18 (by decide) (wm3 90 rfl rfl) rfl d_M_store_28 ?_
        refine x_iload_n hx hb d_M_store_31 hl rfl ?_
        refine rl_18 hx hb hK hI hB hw (by omega) d_M_store_32 (fun hv32 => ?_)
        first | refine x_aload_n hx hb d_M_store_33 hl rfl ?_ | refine x_aload_nQ hx hb d_M_store_33 hl rfl ?_
        refine m_get hx hb hts hown hK hw ci_M (rf_at hI 0 (by decide) rfl) 7 (by decide) (wm3 79 rfl rfl) rfl d_M_store_34 ?_
        refine x_iload_n hx hb d_M_store_37 hl rfl ?_
        refine rl_7 hx hb hK hI hB hw (by omega) d_M_store_38 (fun hv38 => ?_)
        refine x_icmp_ne hx hb d_M_store_39 rfl (by omega) (by omega) (fun h39 => ?_) (fun h39 => ?_)
        · have hT2 : eqf τ n u (k + 1) = eqf τ n (τ 16 0) 0 := by rw [← hT]; exact (if_neg (fun z => h39 z.1)).symm
          refine x_iincN hx hb d_M_store_69 hl rfl (lh_k (i := 1) rfl (by first | exact lk_n | exact lk_i | exact lk_r | exact lk_q | exact lk_0)) (fun ls hl => ?_)
          refine lv_goto hx hb d_M_store_72 rfl ?_
          exact ih (k + 1) H locs ls (by omega) hw hl hT2 h13
        · first | refine x_aload_n hx hb d_M_store_42 hl rfl ?_ | refine x_aload_nQ hx hb d_M_store_42 hl rfl ?_
          refine m_get hx hb hts hown hK hw ci_M (rf_at hI 0 (by decide) rfl) 17 (by decide) (wm3 89 rfl rfl) rfl d_M_store_43 ?_
          refine x_iload_n hx hb d_M_store_46 hl rfl ?_
          refine rl_17 hx hb hK hI hw (by omega) d_M_store_47 ?_
          first | refine x_aload_n hx hb d_M_store_48 hl rfl ?_ | refine x_aload_nQ hx hb d_M_store_48 hl rfl ?_
          refine m_get hx hb hts hown hK hw ci_M (rf_at hI 0 (by decide) rfl) 9 (by decide) (wm3 81 rfl rfl) rfl d_M_store_49 ?_
          refine x_iload_n hx hb d_M_store_52 hl rfl ?_
          refine rl_9 hx hb hK hI hw (by omega) d_M_store_53 ?_
          refine W.lcmp hx hb d_M_store_54 ?_
          refine lv_if_ne hx hb d_M_store_55 rfl (fun h55 => ?_) (fun h55 => ?_)
          · have h55 := fun z => h55 ((cmp_eq (by have := hX17 k; omega) (by have := hX9 n; omega)).mpr z)
            have hT2 : eqf τ n u (k + 1) = eqf τ n (τ 16 0) 0 := by rw [← hT]; exact (if_neg (fun z => h55 z.2)).symm
            refine x_iincN hx hb d_M_store_69 hl rfl (lh_k (i := 1) rfl (by first | exact lk_n | exact lk_i | exact lk_r | exact lk_q | exact lk_0)) (fun ls hl => ?_)
            refine lv_goto hx hb d_M_store_72 rfl ?_
            exact ih (k + 1) H locs ls (by omega) hw hl hT2 h13
          · have h55 := (cmp_eq (by have := hX17 k; omega) (by have := hX9 n; omega)).mp h55
            have hT2 : eqf τ n (τ 16 0) 0 = k := by rw [← hT]; exact if_pos ⟨h39, h55⟩
            first | refine x_aload_n hx hb d_M_store_58 hl rfl ?_ | refine x_aload_nQ hx hb d_M_store_58 hl rfl ?_
            refine m_get hx hb hts hown hK hw ci_M (rf_at hI 0 (by decide) rfl) 15 (by decide) (wm3 87 rfl rfl) rfl d_M_store_59 ?_
            refine x_iload_n hx hb d_M_store_62 hl rfl ?_
            refine x_iload_n hx hb d_M_store_63 hl rfl ?_
            refine lv_iconst (v := nI 1) hx hb d_M_store_64 (by decide) ?_
            first | refine x_iadd hx hb d_M_store_65 ?_ | refine lv_iadd hx hb d_M_store_65 ?_
            first | refine x_i2s hx hb d_M_store_66 (by omega) ?_ | refine lv_i2s hx hb d_M_store_66 rfl ?_
            refine rs_15 hx hb hK hI hB hw (by omega) (by omega) d_M_store_67 (fun H locs hw hB => ?_)
            exact x_retv hQ hx hb hr hlk hw (by omega) (by omega) d_M_store_68 (by rw [hst2, st2_1 h13 hT2 (by omega)]; exact ⟨rfl, hB⟩)
  first | refine x_aload_n hx hb d_M_store_7 hl rfl ?_ | refine x_aload_nQ hx hb d_M_store_7 hl rfl ?_
  refine m_get hx hb hts hown hK hw ci_M (rf_at hI 0 (by decide) rfl) 7 (by decide) (wm3 79 rfl rfl) rfl d_M_store_8 ?_
  refine x_iload_n hx hb d_M_store_11 hl rfl ?_
  refine rl_7 hx hb hK hI hB hw (by omega) d_M_store_12 (fun hv12 => ?_)
  refine x_if_ne hx hb d_M_store_13 rfl (by omega) (fun h13 => ?_) (fun h13 => ?_)
  · refine lv_iconst (v := nI 0) hx hb d_M_store_17 (by decide) ?_
    refine x_istore_n hx hb d_M_store_18 hl (Nat.le_of_ble_eq_true rfl) (lh_k (i := 1) rfl (by first | exact lk_n | exact lk_i | exact lk_r | exact lk_q | exact lk_0)) (fun ls hl => ?_)
    exact loop1 (τ 16 0) 0 _ _ _ (by omega) hw hl rfl h13
  · exact x_retv hQ hx hb hr hlk hw (by omega) (by omega) d_M_store_16 (by rw [hst2, st2_0 h13]; exact ⟨rfl, hB⟩)
