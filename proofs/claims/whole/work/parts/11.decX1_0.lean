theorem dX1_init_0 : decode cX1_init 0 = .ok (.aload_n 0, 1) := by decide +kernel
theorem dX1_init_1 : decode cX1_init 1 = .ok (.invokespecial 3, 3) := by decide +kernel
theorem dX1_init_4 : decode cX1_init 4 = .ok (.aload_n 0, 1) := by decide +kernel
theorem dX1_init_5 : decode cX1_init 5 = .ok (.bipush 8, 2) := by decide +kernel
theorem dX1_init_7 : decode cX1_init 7 = .ok (.newarray .int, 2) := by decide +kernel
theorem dX1_init_9 : decode cX1_init 9 = .ok (.putfield 9, 3) := by decide +kernel
theorem dX1_init_12 : decode cX1_init 12 = .ok (.aload_n 0, 1) := by decide +kernel
theorem dX1_init_13 : decode cX1_init 13 = .ok (.bipush 8, 2) := by decide +kernel
theorem dX1_init_15 : decode cX1_init 15 = .ok (.newarray .int, 2) := by decide +kernel
theorem dX1_init_17 : decode cX1_init 17 = .ok (.putfield 15, 3) := by decide +kernel
theorem dX1_init_20 : decode cX1_init 20 = .ok (.aload_n 0, 1) := by decide +kernel
theorem dX1_init_21 : decode cX1_init 21 = .ok (.bipush 16, 2) := by decide +kernel
theorem dX1_init_23 : decode cX1_init 23 = .ok (.newarray .int, 2) := by decide +kernel
theorem dX1_init_25 : decode cX1_init 25 = .ok (.putfield 18, 3) := by decide +kernel
theorem dX1_init_28 : decode cX1_init 28 = .ok (.aload_n 0, 1) := by decide +kernel
theorem dX1_init_29 : decode cX1_init 29 = .ok (.aload_n 1, 1) := by decide +kernel
theorem dX1_init_30 : decode cX1_init 30 = .ok (.putfield 21, 3) := by decide +kernel
theorem dX1_init_33 : decode cX1_init 33 = .ok (.aload_n 0, 1) := by decide +kernel
theorem dX1_init_34 : decode cX1_init 34 = .ok (.aload_n 2, 1) := by decide +kernel
theorem dX1_init_35 : decode cX1_init 35 = .ok (.putfield 25, 3) := by decide +kernel
theorem dX1_init_38 : decode cX1_init 38 = .ok (.aload_n 0, 1) := by decide +kernel
theorem dX1_init_39 : decode cX1_init 39 = .ok (.iconst 0, 1) := by decide +kernel
theorem dX1_init_40 : decode cX1_init 40 = .ok (.putfield 29, 3) := by decide +kernel
theorem dX1_init_43 : decode cX1_init 43 = .ok (.return_, 1) := by decide +kernel
theorem dX1_turnOff_0 : decode cX1_turnOff 0 = .ok (.aload_n 0, 1) := by decide +kernel
theorem dX1_turnOff_1 : decode cX1_turnOff 1 = .ok (.iconst 0, 1) := by decide +kernel
theorem dX1_turnOff_2 : decode cX1_turnOff 2 = .ok (.putfield 29, 3) := by decide +kernel
theorem dX1_turnOff_5 : decode cX1_turnOff 5 = .ok (.aload_n 0, 1) := by decide +kernel
theorem dX1_turnOff_6 : decode cX1_turnOff 6 = .ok (.iconst 0, 1) := by decide +kernel
theorem dX1_turnOff_7 : decode cX1_turnOff 7 = .ok (.putfield 33, 3) := by decide +kernel
theorem dX1_turnOff_10 : decode cX1_turnOff 10 = .ok (.return_, 1) := by decide +kernel
theorem dX1_turnOn_0 : decode cX1_turnOn 0 = .ok (.iconst 0, 1) := by decide +kernel
theorem dX1_turnOn_1 : decode cX1_turnOn 1 = .ok (.istore_n 1, 1) := by decide +kernel
theorem dX1_turnOn_2 : decode cX1_turnOn 2 = .ok (.iload_n 1, 1) := by decide +kernel
theorem dX1_turnOn_3 : decode cX1_turnOn 3 = .ok (.bipush 8, 2) := by decide +kernel
theorem dX1_turnOn_5 : decode cX1_turnOn 5 = .ok (.if_icmp .ge 16, 3) := by decide +kernel
theorem dX1_turnOn_8 : decode cX1_turnOn 8 = .ok (.aload_n 0, 1) := by decide +kernel
theorem dX1_turnOn_9 : decode cX1_turnOn 9 = .ok (.getfield 15, 3) := by decide +kernel
theorem dX1_turnOn_12 : decode cX1_turnOn 12 = .ok (.iload_n 1, 1) := by decide +kernel
theorem dX1_turnOn_13 : decode cX1_turnOn 13 = .ok (.iconst 0, 1) := by decide +kernel
theorem dX1_turnOn_14 : decode cX1_turnOn 14 = .ok (.iastore, 1) := by decide +kernel
theorem dX1_turnOn_15 : decode cX1_turnOn 15 = .ok (.iinc 1 1, 3) := by decide +kernel
theorem dX1_turnOn_18 : decode cX1_turnOn 18 = .ok (.goto (-16), 3) := by decide +kernel
theorem dX1_turnOn_21 : decode cX1_turnOn 21 = .ok (.aload_n 0, 1) := by decide +kernel
theorem dX1_turnOn_22 : decode cX1_turnOn 22 = .ok (.iconst 1, 1) := by decide +kernel
theorem dX1_turnOn_23 : decode cX1_turnOn 23 = .ok (.putfield 29, 3) := by decide +kernel
theorem dX1_turnOn_26 : decode cX1_turnOn 26 = .ok (.aload_n 0, 1) := by decide +kernel
theorem dX1_turnOn_27 : decode cX1_turnOn 27 = .ok (.iconst 0, 1) := by decide +kernel
theorem dX1_turnOn_28 : decode cX1_turnOn 28 = .ok (.putfield 33, 3) := by decide +kernel
theorem dX1_turnOn_31 : decode cX1_turnOn 31 = .ok (.aload_n 0, 1) := by decide +kernel
theorem dX1_turnOn_32 : decode cX1_turnOn 32 = .ok (.iconst 0, 1) := by decide +kernel
theorem dX1_turnOn_33 : decode cX1_turnOn 33 = .ok (.putfield 36, 3) := by decide +kernel
theorem dX1_turnOn_36 : decode cX1_turnOn 36 = .ok (.return_, 1) := by decide +kernel
theorem dX1_goOn_0 : decode cX1_goOn 0 = .ok (.iconst 0, 1) := by decide +kernel
theorem dX1_goOn_1 : decode cX1_goOn 1 = .ok (.istore_n 2, 1) := by decide +kernel
theorem dX1_goOn_2 : decode cX1_goOn 2 = .ok (.iconst 0, 1) := by decide +kernel
theorem dX1_goOn_3 : decode cX1_goOn 3 = .ok (.istore_n 3, 1) := by decide +kernel
theorem dX1_goOn_4 : decode cX1_goOn 4 = .ok (.iload_n 3, 1) := by decide +kernel
theorem dX1_goOn_5 : decode cX1_goOn 5 = .ok (.iload_n 1, 1) := by decide +kernel
theorem dX1_goOn_6 : decode cX1_goOn 6 = .ok (.if_icmp .ge 29, 3) := by decide +kernel
theorem dX1_goOn_9 : decode cX1_goOn 9 = .ok (.iload_n 2, 1) := by decide +kernel
theorem dX1_goOn_10 : decode cX1_goOn 10 = .ok (.iload_n 1, 1) := by decide +kernel
theorem dX1_goOn_11 : decode cX1_goOn 11 = .ok (.if_icmp .ge 24, 3) := by decide +kernel
theorem dX1_goOn_14 : decode cX1_goOn 14 = .ok (.aload_n 0, 1) := by decide +kernel
theorem dX1_goOn_15 : decode cX1_goOn 15 = .ok (.getfield 29, 3) := by decide +kernel
theorem dX1_goOn_18 : decode cX1_goOn 18 = .ok (.iconst 1, 1) := by decide +kernel
theorem dX1_goOn_19 : decode cX1_goOn 19 = .ok (.if_icmp .ne 16, 3) := by decide +kernel
theorem dX1_goOn_22 : decode cX1_goOn 22 = .ok (.iload_n 2, 1) := by decide +kernel
theorem dX1_goOn_23 : decode cX1_goOn 23 = .ok (.aload_n 0, 1) := by decide +kernel
theorem dX1_goOn_24 : decode cX1_goOn 24 = .ok (.invokevirtual 39, 3) := by decide +kernel
theorem dX1_goOn_27 : decode cX1_goOn 27 = .ok (.iadd, 1) := by decide +kernel
theorem dX1_goOn_28 : decode cX1_goOn 28 = .ok (.istore_n 2, 1) := by decide +kernel
theorem dX1_goOn_29 : decode cX1_goOn 29 = .ok (.iinc 3 1, 3) := by decide +kernel
theorem dX1_goOn_32 : decode cX1_goOn 32 = .ok (.goto (-28), 3) := by decide +kernel
theorem dX1_goOn_35 : decode cX1_goOn 35 = .ok (.iload_n 2, 1) := by decide +kernel
theorem dX1_goOn_36 : decode cX1_goOn 36 = .ok (.ireturn, 1) := by decide +kernel
theorem dX1_keeps_0 : decode cX1_keeps 0 = .ok (.iload_n 1, 1) := by decide +kernel
theorem dX1_keeps_1 : decode cX1_keeps 1 = .ok (.ifCond .lt 26, 3) := by decide +kernel
theorem dX1_keeps_4 : decode cX1_keeps 4 = .ok (.iload_n 1, 1) := by decide +kernel
theorem dX1_keeps_5 : decode cX1_keeps 5 = .ok (.aload_n 0, 1) := by decide +kernel
theorem dX1_keeps_6 : decode cX1_keeps 6 = .ok (.getfield 33, 3) := by decide +kernel
theorem dX1_keeps_9 : decode cX1_keeps 9 = .ok (.if_icmp .ge 18, 3) := by decide +kernel
theorem dX1_keeps_12 : decode cX1_keeps 12 = .ok (.iload_n 1, 1) := by decide +kernel
theorem dX1_keeps_13 : decode cX1_keeps 13 = .ok (.aload_n 0, 1) := by decide +kernel
theorem dX1_keeps_14 : decode cX1_keeps 14 = .ok (.getfield 33, 3) := by decide +kernel
theorem dX1_keeps_17 : decode cX1_keeps 17 = .ok (.bipush 16, 2) := by decide +kernel
theorem dX1_keeps_19 : decode cX1_keeps 19 = .ok (.isub, 1) := by decide +kernel
theorem dX1_keeps_20 : decode cX1_keeps 20 = .ok (.if_icmp .lt 7, 3) := by decide +kernel
theorem dX1_keeps_23 : decode cX1_keeps 23 = .ok (.iconst 1, 1) := by decide +kernel
theorem dX1_keeps_24 : decode cX1_keeps 24 = .ok (.goto 4, 3) := by decide +kernel
theorem dX1_keeps_27 : decode cX1_keeps 27 = .ok (.iconst 0, 1) := by decide +kernel
theorem dX1_keeps_28 : decode cX1_keeps 28 = .ok (.ireturn, 1) := by decide +kernel
theorem dX1_keptOutput_0 : decode cX1_keptOutput 0 = .ok (.aload_n 0, 1) := by decide +kernel
theorem dX1_keptOutput_1 : decode cX1_keptOutput 1 = .ok (.getfield 18, 3) := by decide +kernel
theorem dX1_keptOutput_4 : decode cX1_keptOutput 4 = .ok (.iload_n 1, 1) := by decide +kernel
theorem dX1_keptOutput_5 : decode cX1_keptOutput 5 = .ok (.bipush 15, 2) := by decide +kernel
theorem dX1_keptOutput_7 : decode cX1_keptOutput 7 = .ok (.iand, 1) := by decide +kernel
theorem dX1_keptOutput_8 : decode cX1_keptOutput 8 = .ok (.iaload, 1) := by decide +kernel
theorem dX1_keptOutput_9 : decode cX1_keptOutput 9 = .ok (.ireturn, 1) := by decide +kernel
theorem dX1_step_0 : decode cX1_step 0 = .ok (.aload_n 0, 1) := by decide +kernel
theorem dX1_step_1 : decode cX1_step 1 = .ok (.getfield 36, 3) := by decide +kernel
theorem dX1_step_4 : decode cX1_step 4 = .ok (.istore_n 1, 1) := by decide +kernel
theorem dX1_step_5 : decode cX1_step 5 = .ok (.aload_n 0, 1) := by decide +kernel
theorem dX1_step_6 : decode cX1_step 6 = .ok (.getfield 15, 3) := by decide +kernel
theorem dX1_step_9 : decode cX1_step 9 = .ok (.aload_n 0, 1) := by decide +kernel
theorem dX1_step_10 : decode cX1_step 10 = .ok (.getfield 21, 3) := by decide +kernel
theorem dX1_step_13 : decode cX1_step 13 = .ok (.getfield 43, 3) := by decide +kernel
theorem dX1_step_16 : decode cX1_step 16 = .ok (.iload_n 1, 1) := by decide +kernel
theorem dX1_step_17 : decode cX1_step 17 = .ok (.iaload, 1) := by decide +kernel
theorem dX1_step_18 : decode cX1_step 18 = .ok (.iaload, 1) := by decide +kernel
theorem dX1_step_19 : decode cX1_step 19 = .ok (.istore_n 2, 1) := by decide +kernel
theorem dX1_step_20 : decode cX1_step 20 = .ok (.aload_n 0, 1) := by decide +kernel
theorem dX1_step_21 : decode cX1_step 21 = .ok (.getfield 15, 3) := by decide +kernel
theorem dX1_step_24 : decode cX1_step 24 = .ok (.aload_n 0, 1) := by decide +kernel
theorem dX1_step_25 : decode cX1_step 25 = .ok (.getfield 21, 3) := by decide +kernel
theorem dX1_step_28 : decode cX1_step 28 = .ok (.getfield 48, 3) := by decide +kernel
theorem dX1_step_31 : decode cX1_step 31 = .ok (.iload_n 1, 1) := by decide +kernel
theorem dX1_step_32 : decode cX1_step 32 = .ok (.iaload, 1) := by decide +kernel
theorem dX1_step_33 : decode cX1_step 33 = .ok (.iaload, 1) := by decide +kernel
theorem dX1_step_34 : decode cX1_step 34 = .ok (.istore_n 3, 1) := by decide +kernel
theorem dX1_step_35 : decode cX1_step 35 = .ok (.aload_n 0, 1) := by decide +kernel
theorem dX1_step_36 : decode cX1_step 36 = .ok (.getfield 21, 3) := by decide +kernel
theorem dX1_step_39 : decode cX1_step 39 = .ok (.getfield 51, 3) := by decide +kernel
theorem dX1_step_42 : decode cX1_step 42 = .ok (.iload_n 1, 1) := by decide +kernel
theorem dX1_step_43 : decode cX1_step 43 = .ok (.iaload, 1) := by decide +kernel
theorem dX1_step_44 : decode cX1_step 44 = .ok (.istore 4, 2) := by decide +kernel
theorem dX1_step_46 : decode cX1_step 46 = .ok (.aload_n 0, 1) := by decide +kernel
theorem dX1_step_47 : decode cX1_step 47 = .ok (.getfield 25, 3) := by decide +kernel
theorem dX1_step_50 : decode cX1_step 50 = .ok (.iload_n 1, 1) := by decide +kernel
theorem dX1_step_51 : decode cX1_step 51 = .ok (.invokevirtual 54, 3) := by decide +kernel
theorem dX1_step_54 : decode cX1_step 54 = .ok (.istore 5, 2) := by decide +kernel
theorem dX1_step_56 : decode cX1_step 56 = .ok (.aload_n 0, 1) := by decide +kernel
theorem dX1_step_57 : decode cX1_step 57 = .ok (.iload_n 1, 1) := by decide +kernel
theorem dX1_step_58 : decode cX1_step 58 = .ok (.iconst 1, 1) := by decide +kernel
theorem dX1_step_59 : decode cX1_step 59 = .ok (.iadd, 1) := by decide +kernel
theorem dX1_step_60 : decode cX1_step 60 = .ok (.putfield 36, 3) := by decide +kernel
theorem dX1_step_63 : decode cX1_step 63 = .ok (.aload_n 0, 1) := by decide +kernel
theorem dX1_step_64 : decode cX1_step 64 = .ok (.getfield 21, 3) := by decide +kernel
theorem dX1_step_67 : decode cX1_step 67 = .ok (.getfield 60, 3) := by decide +kernel
theorem dX1_step_70 : decode cX1_step 70 = .ok (.iload_n 1, 1) := by decide +kernel
theorem dX1_step_71 : decode cX1_step 71 = .ok (.iaload, 1) := by decide +kernel
theorem dX1_step_72 : decode cX1_step 72 = .ok (.tableswitch 211 0 7 #[48, 67, 98, 124, 137, 146, 190, 198], 48) := by decide +kernel
theorem dX1_step_120 : decode cX1_step 120 = .ok (.aload_n 0, 1) := by decide +kernel
theorem dX1_step_121 : decode cX1_step 121 = .ok (.getfield 15, 3) := by decide +kernel
theorem dX1_step_124 : decode cX1_step 124 = .ok (.aload_n 0, 1) := by decide +kernel
theorem dX1_step_125 : decode cX1_step 125 = .ok (.getfield 21, 3) := by decide +kernel
theorem dX1_step_128 : decode cX1_step 128 = .ok (.getfield 63, 3) := by decide +kernel
theorem dX1_step_131 : decode cX1_step 131 = .ok (.iload_n 1, 1) := by decide +kernel
theorem dX1_step_132 : decode cX1_step 132 = .ok (.iaload, 1) := by decide +kernel
theorem dX1_step_133 : decode cX1_step 133 = .ok (.iload 4, 2) := by decide +kernel
theorem dX1_step_135 : decode cX1_step 135 = .ok (.iastore, 1) := by decide +kernel
theorem dX1_step_136 : decode cX1_step 136 = .ok (.goto 163, 3) := by decide +kernel
theorem dX1_step_139 : decode cX1_step 139 = .ok (.aload_n 0, 1) := by decide +kernel
theorem dX1_step_140 : decode cX1_step 140 = .ok (.getfield 15, 3) := by decide +kernel
theorem dX1_step_143 : decode cX1_step 143 = .ok (.aload_n 0, 1) := by decide +kernel
theorem dX1_step_144 : decode cX1_step 144 = .ok (.getfield 21, 3) := by decide +kernel
theorem dX1_step_147 : decode cX1_step 147 = .ok (.getfield 63, 3) := by decide +kernel
theorem dX1_step_150 : decode cX1_step 150 = .ok (.iload_n 1, 1) := by decide +kernel
theorem dX1_step_151 : decode cX1_step 151 = .ok (.iaload, 1) := by decide +kernel
theorem dX1_step_152 : decode cX1_step 152 = .ok (.aload_n 0, 1) := by decide +kernel
theorem dX1_step_153 : decode cX1_step 153 = .ok (.getfield 21, 3) := by decide +kernel
theorem dX1_step_156 : decode cX1_step 156 = .ok (.getfield 66, 3) := by decide +kernel
theorem dX1_step_159 : decode cX1_step 159 = .ok (.iload_n 1, 1) := by decide +kernel
theorem dX1_step_160 : decode cX1_step 160 = .ok (.iaload, 1) := by decide +kernel
theorem dX1_step_161 : decode cX1_step 161 = .ok (.iload_n 2, 1) := by decide +kernel
theorem dX1_step_162 : decode cX1_step 162 = .ok (.iload_n 3, 1) := by decide +kernel
theorem dX1_step_163 : decode cX1_step 163 = .ok (.invokestatic 69, 3) := by decide +kernel
theorem dX1_step_166 : decode cX1_step 166 = .ok (.iastore, 1) := by decide +kernel
theorem dX1_step_167 : decode cX1_step 167 = .ok (.goto 132, 3) := by decide +kernel
theorem dX1_step_170 : decode cX1_step 170 = .ok (.aload_n 0, 1) := by decide +kernel
theorem dX1_step_171 : decode cX1_step 171 = .ok (.getfield 15, 3) := by decide +kernel
theorem dX1_step_174 : decode cX1_step 174 = .ok (.aload_n 0, 1) := by decide +kernel
theorem dX1_step_175 : decode cX1_step 175 = .ok (.getfield 21, 3) := by decide +kernel
theorem dX1_step_178 : decode cX1_step 178 = .ok (.getfield 63, 3) := by decide +kernel
theorem dX1_step_181 : decode cX1_step 181 = .ok (.iload_n 1, 1) := by decide +kernel
theorem dX1_step_182 : decode cX1_step 182 = .ok (.iaload, 1) := by decide +kernel
theorem dX1_step_183 : decode cX1_step 183 = .ok (.aload_n 0, 1) := by decide +kernel
theorem dX1_step_184 : decode cX1_step 184 = .ok (.getfield 9, 3) := by decide +kernel
theorem dX1_step_187 : decode cX1_step 187 = .ok (.iload_n 2, 1) := by decide +kernel
theorem dX1_step_188 : decode cX1_step 188 = .ok (.bipush 7, 2) := by decide +kernel
theorem dX1_step_190 : decode cX1_step 190 = .ok (.iand, 1) := by decide +kernel
theorem dX1_step_191 : decode cX1_step 191 = .ok (.iaload, 1) := by decide +kernel
theorem dX1_step_192 : decode cX1_step 192 = .ok (.iastore, 1) := by decide +kernel
theorem dX1_step_193 : decode cX1_step 193 = .ok (.goto 106, 3) := by decide +kernel
theorem dX1_step_196 : decode cX1_step 196 = .ok (.aload_n 0, 1) := by decide +kernel
theorem dX1_step_197 : decode cX1_step 197 = .ok (.getfield 9, 3) := by decide +kernel
theorem dX1_step_200 : decode cX1_step 200 = .ok (.iload_n 2, 1) := by decide +kernel
theorem dX1_step_201 : decode cX1_step 201 = .ok (.bipush 7, 2) := by decide +kernel
theorem dX1_step_203 : decode cX1_step 203 = .ok (.iand, 1) := by decide +kernel
theorem dX1_step_204 : decode cX1_step 204 = .ok (.iload_n 3, 1) := by decide +kernel
theorem dX1_step_205 : decode cX1_step 205 = .ok (.iastore, 1) := by decide +kernel
theorem dX1_step_206 : decode cX1_step 206 = .ok (.goto 93, 3) := by decide +kernel
theorem dX1_step_209 : decode cX1_step 209 = .ok (.aload_n 0, 1) := by decide +kernel
theorem dX1_step_210 : decode cX1_step 210 = .ok (.iload 4, 2) := by decide +kernel
theorem dX1_step_212 : decode cX1_step 212 = .ok (.putfield 36, 3) := by decide +kernel
theorem dX1_step_215 : decode cX1_step 215 = .ok (.goto 84, 3) := by decide +kernel
theorem dX1_step_218 : decode cX1_step 218 = .ok (.aload_n 0, 1) := by decide +kernel
theorem dX1_step_219 : decode cX1_step 219 = .ok (.getfield 21, 3) := by decide +kernel
theorem dX1_step_222 : decode cX1_step 222 = .ok (.getfield 66, 3) := by decide +kernel
theorem dX1_step_225 : decode cX1_step 225 = .ok (.iload_n 1, 1) := by decide +kernel
theorem dX1_step_226 : decode cX1_step 226 = .ok (.iaload, 1) := by decide +kernel
theorem dX1_step_227 : decode cX1_step 227 = .ok (.iload_n 2, 1) := by decide +kernel
theorem dX1_step_228 : decode cX1_step 228 = .ok (.iload_n 3, 1) := by decide +kernel
theorem dX1_step_229 : decode cX1_step 229 = .ok (.invokestatic 73, 3) := by decide +kernel
theorem dX1_step_232 : decode cX1_step 232 = .ok (.ifCond .eq 12, 3) := by decide +kernel
theorem dX1_step_235 : decode cX1_step 235 = .ok (.aload_n 0, 1) := by decide +kernel
theorem dX1_step_236 : decode cX1_step 236 = .ok (.iload 4, 2) := by decide +kernel
theorem dX1_step_238 : decode cX1_step 238 = .ok (.putfield 36, 3) := by decide +kernel
theorem dX1_step_241 : decode cX1_step 241 = .ok (.goto 58, 3) := by decide +kernel
theorem dX1_step_244 : decode cX1_step 244 = .ok (.aload_n 0, 1) := by decide +kernel
theorem dX1_step_245 : decode cX1_step 245 = .ok (.getfield 25, 3) := by decide +kernel
theorem dX1_step_248 : decode cX1_step 248 = .ok (.getfield 77, 3) := by decide +kernel
theorem dX1_step_251 : decode cX1_step 251 = .ok (.iload_n 1, 1) := by decide +kernel
theorem dX1_step_252 : decode cX1_step 252 = .ok (.baload, 1) := by decide +kernel
theorem dX1_step_253 : decode cX1_step 253 = .ok (.ifCond .eq 46, 3) := by decide +kernel
theorem dX1_step_256 : decode cX1_step 256 = .ok (.iinc 5 (-1), 3) := by decide +kernel
theorem dX1_step_259 : decode cX1_step 259 = .ok (.goto 40, 3) := by decide +kernel
theorem dX1_step_262 : decode cX1_step 262 = .ok (.aload_n 0, 1) := by decide +kernel
theorem dX1_step_263 : decode cX1_step 263 = .ok (.iload_n 2, 1) := by decide +kernel
theorem dX1_step_264 : decode cX1_step 264 = .ok (.invokevirtual 81, 3) := by decide +kernel
theorem dX1_step_267 : decode cX1_step 267 = .ok (.goto 32, 3) := by decide +kernel
theorem dX1_step_270 : decode cX1_step 270 = .ok (.aload_n 0, 1) := by decide +kernel
theorem dX1_step_271 : decode cX1_step 271 = .ok (.iload_n 1, 1) := by decide +kernel
theorem dX1_step_272 : decode cX1_step 272 = .ok (.putfield 36, 3) := by decide +kernel
theorem dX1_step_275 : decode cX1_step 275 = .ok (.aload_n 0, 1) := by decide +kernel
theorem dX1_step_276 : decode cX1_step 276 = .ok (.iconst 2, 1) := by decide +kernel
theorem dX1_step_277 : decode cX1_step 277 = .ok (.putfield 29, 3) := by decide +kernel
theorem dX1_step_280 : decode cX1_step 280 = .ok (.goto 19, 3) := by decide +kernel
theorem dX1_step_283 : decode cX1_step 283 = .ok (.aload_n 0, 1) := by decide +kernel
theorem dX1_step_284 : decode cX1_step 284 = .ok (.iload_n 1, 1) := by decide +kernel
theorem dX1_step_285 : decode cX1_step 285 = .ok (.putfield 36, 3) := by decide +kernel
theorem dX1_step_288 : decode cX1_step 288 = .ok (.aload_n 0, 1) := by decide +kernel
theorem dX1_step_289 : decode cX1_step 289 = .ok (.iconst 3, 1) := by decide +kernel
theorem dX1_step_290 : decode cX1_step 290 = .ok (.putfield 29, 3) := by decide +kernel
theorem dX1_step_293 : decode cX1_step 293 = .ok (.aload_n 0, 1) := by decide +kernel
theorem dX1_step_294 : decode cX1_step 294 = .ok (.iload 4, 2) := by decide +kernel
theorem dX1_step_296 : decode cX1_step 296 = .ok (.putfield 85, 3) := by decide +kernel
theorem dX1_step_299 : decode cX1_step 299 = .ok (.iload 5, 2) := by decide +kernel
theorem dX1_step_301 : decode cX1_step 301 = .ok (.ireturn, 1) := by decide +kernel
theorem dX1_putOut_0 : decode cX1_putOut 0 = .ok (.aload_n 0, 1) := by decide +kernel
theorem dX1_putOut_1 : decode cX1_putOut 1 = .ok (.getfield 18, 3) := by decide +kernel
theorem dX1_putOut_4 : decode cX1_putOut 4 = .ok (.aload_n 0, 1) := by decide +kernel
theorem dX1_putOut_5 : decode cX1_putOut 5 = .ok (.getfield 33, 3) := by decide +kernel
theorem dX1_putOut_8 : decode cX1_putOut 8 = .ok (.bipush 15, 2) := by decide +kernel
theorem dX1_putOut_10 : decode cX1_putOut 10 = .ok (.iand, 1) := by decide +kernel
theorem dX1_putOut_11 : decode cX1_putOut 11 = .ok (.iload_n 1, 1) := by decide +kernel
theorem dX1_putOut_12 : decode cX1_putOut 12 = .ok (.iastore, 1) := by decide +kernel
theorem dX1_putOut_13 : decode cX1_putOut 13 = .ok (.aload_n 0, 1) := by decide +kernel
theorem dX1_putOut_14 : decode cX1_putOut 14 = .ok (.dup, 1) := by decide +kernel
theorem dX1_putOut_15 : decode cX1_putOut 15 = .ok (.getfield 33, 3) := by decide +kernel
theorem dX1_putOut_18 : decode cX1_putOut 18 = .ok (.iconst 1, 1) := by decide +kernel
theorem dX1_putOut_19 : decode cX1_putOut 19 = .ok (.iadd, 1) := by decide +kernel
theorem dX1_putOut_20 : decode cX1_putOut 20 = .ok (.putfield 33, 3) := by decide +kernel
theorem dX1_putOut_23 : decode cX1_putOut 23 = .ok (.return_, 1) := by decide +kernel
theorem dX1_result_0 : decode cX1_result 0 = .ok (.iload_n 2, 1) := by decide +kernel
theorem dX1_result_1 : decode cX1_result 1 = .ok (.sipush 255, 3) := by decide +kernel
theorem dX1_result_4 : decode cX1_result 4 = .ok (.iand, 1) := by decide +kernel
theorem dX1_result_5 : decode cX1_result 5 = .ok (.istore_n 3, 1) := by decide +kernel
theorem dX1_result_6 : decode cX1_result 6 = .ok (.iload_n 0, 1) := by decide +kernel
theorem dX1_result_7 : decode cX1_result 7 = .ok (.tableswitch 79 0 6 #[41, 45, 49, 53, 57, 61, 65], 41) := by decide +kernel
theorem dX1_result_48 : decode cX1_result 48 = .ok (.iload_n 1, 1) := by decide +kernel
theorem dX1_result_49 : decode cX1_result 49 = .ok (.iload_n 2, 1) := by decide +kernel
theorem dX1_result_50 : decode cX1_result 50 = .ok (.iadd, 1) := by decide +kernel
theorem dX1_result_51 : decode cX1_result 51 = .ok (.ireturn, 1) := by decide +kernel
theorem dX1_result_52 : decode cX1_result 52 = .ok (.iload_n 1, 1) := by decide +kernel
theorem dX1_result_53 : decode cX1_result 53 = .ok (.iload_n 2, 1) := by decide +kernel
theorem dX1_result_54 : decode cX1_result 54 = .ok (.isub, 1) := by decide +kernel
theorem dX1_result_55 : decode cX1_result 55 = .ok (.ireturn, 1) := by decide +kernel
theorem dX1_result_56 : decode cX1_result 56 = .ok (.iload_n 1, 1) := by decide +kernel
theorem dX1_result_57 : decode cX1_result 57 = .ok (.iload_n 2, 1) := by decide +kernel
theorem dX1_result_58 : decode cX1_result 58 = .ok (.imul, 1) := by decide +kernel
theorem dX1_result_59 : decode cX1_result 59 = .ok (.ireturn, 1) := by decide +kernel
theorem dX1_result_60 : decode cX1_result 60 = .ok (.iload_n 1, 1) := by decide +kernel
theorem dX1_result_61 : decode cX1_result 61 = .ok (.iload_n 2, 1) := by decide +kernel
theorem dX1_result_62 : decode cX1_result 62 = .ok (.iand, 1) := by decide +kernel
theorem dX1_result_63 : decode cX1_result 63 = .ok (.ireturn, 1) := by decide +kernel
theorem dX1_result_64 : decode cX1_result 64 = .ok (.iload_n 1, 1) := by decide +kernel
theorem dX1_result_65 : decode cX1_result 65 = .ok (.iload_n 2, 1) := by decide +kernel
theorem dX1_result_66 : decode cX1_result 66 = .ok (.ior, 1) := by decide +kernel
theorem dX1_result_67 : decode cX1_result 67 = .ok (.ireturn, 1) := by decide +kernel
theorem dX1_result_68 : decode cX1_result 68 = .ok (.iload_n 1, 1) := by decide +kernel
theorem dX1_result_69 : decode cX1_result 69 = .ok (.iload_n 2, 1) := by decide +kernel
theorem dX1_result_70 : decode cX1_result 70 = .ok (.ixor, 1) := by decide +kernel
theorem dX1_result_71 : decode cX1_result 71 = .ok (.ireturn, 1) := by decide +kernel
theorem dX1_result_72 : decode cX1_result 72 = .ok (.iload_n 3, 1) := by decide +kernel
theorem dX1_result_73 : decode cX1_result 73 = .ok (.bipush 32, 2) := by decide +kernel
theorem dX1_result_75 : decode cX1_result 75 = .ok (.if_icmp .ge 9, 3) := by decide +kernel
theorem dX1_result_78 : decode cX1_result 78 = .ok (.iload_n 1, 1) := by decide +kernel
theorem dX1_result_79 : decode cX1_result 79 = .ok (.iload_n 3, 1) := by decide +kernel
theorem dX1_result_80 : decode cX1_result 80 = .ok (.ishl, 1) := by decide +kernel
theorem dX1_result_81 : decode cX1_result 81 = .ok (.goto 4, 3) := by decide +kernel
theorem dX1_result_84 : decode cX1_result 84 = .ok (.iconst 0, 1) := by decide +kernel
theorem dX1_result_85 : decode cX1_result 85 = .ok (.ireturn, 1) := by decide +kernel
theorem dX1_result_86 : decode cX1_result 86 = .ok (.iload_n 3, 1) := by decide +kernel
theorem dX1_result_87 : decode cX1_result 87 = .ok (.bipush 32, 2) := by decide +kernel
theorem dX1_result_89 : decode cX1_result 89 = .ok (.if_icmp .ge 9, 3) := by decide +kernel
theorem dX1_result_92 : decode cX1_result 92 = .ok (.iload_n 1, 1) := by decide +kernel
theorem dX1_result_93 : decode cX1_result 93 = .ok (.iload_n 3, 1) := by decide +kernel
theorem dX1_result_94 : decode cX1_result 94 = .ok (.iushr, 1) := by decide +kernel
theorem dX1_result_95 : decode cX1_result 95 = .ok (.goto 4, 3) := by decide +kernel
theorem dX1_result_98 : decode cX1_result 98 = .ok (.iconst 0, 1) := by decide +kernel
theorem dX1_result_99 : decode cX1_result 99 = .ok (.ireturn, 1) := by decide +kernel
theorem dX1_holds_0 : decode cX1_holds 0 = .ok (.iload_n 1, 1) := by decide +kernel
theorem dX1_holds_1 : decode cX1_holds 1 = .ok (.ldc 88, 2) := by decide +kernel
theorem dX1_holds_3 : decode cX1_holds 3 = .ok (.ixor, 1) := by decide +kernel
theorem dX1_holds_4 : decode cX1_holds 4 = .ok (.istore_n 3, 1) := by decide +kernel
theorem dX1_holds_5 : decode cX1_holds 5 = .ok (.iload_n 2, 1) := by decide +kernel
theorem dX1_holds_6 : decode cX1_holds 6 = .ok (.ldc 88, 2) := by decide +kernel
theorem dX1_holds_8 : decode cX1_holds 8 = .ok (.ixor, 1) := by decide +kernel
theorem dX1_holds_9 : decode cX1_holds 9 = .ok (.istore 4, 2) := by decide +kernel
theorem dX1_holds_11 : decode cX1_holds 11 = .ok (.iload_n 0, 1) := by decide +kernel
theorem dX1_holds_12 : decode cX1_holds 12 = .ok (.tableswitch 171 0 12 #[68, 79, 90, 102, 171, 171, 171, 171, 114, 126, 138, 149, 160], 68) := by decide +kernel
theorem dX1_holds_80 : decode cX1_holds 80 = .ok (.iload_n 1, 1) := by decide +kernel
theorem dX1_holds_81 : decode cX1_holds 81 = .ok (.iload_n 2, 1) := by decide +kernel
theorem dX1_holds_82 : decode cX1_holds 82 = .ok (.if_icmp .ne 7, 3) := by decide +kernel
theorem dX1_holds_85 : decode cX1_holds 85 = .ok (.iconst 1, 1) := by decide +kernel
theorem dX1_holds_86 : decode cX1_holds 86 = .ok (.goto 4, 3) := by decide +kernel
theorem dX1_holds_89 : decode cX1_holds 89 = .ok (.iconst 0, 1) := by decide +kernel
theorem dX1_holds_90 : decode cX1_holds 90 = .ok (.ireturn, 1) := by decide +kernel
theorem dX1_holds_91 : decode cX1_holds 91 = .ok (.iload_n 1, 1) := by decide +kernel
theorem dX1_holds_92 : decode cX1_holds 92 = .ok (.iload_n 2, 1) := by decide +kernel
theorem dX1_holds_93 : decode cX1_holds 93 = .ok (.if_icmp .eq 7, 3) := by decide +kernel
theorem dX1_holds_96 : decode cX1_holds 96 = .ok (.iconst 1, 1) := by decide +kernel
theorem dX1_holds_97 : decode cX1_holds 97 = .ok (.goto 4, 3) := by decide +kernel
theorem dX1_holds_100 : decode cX1_holds 100 = .ok (.iconst 0, 1) := by decide +kernel
theorem dX1_holds_101 : decode cX1_holds 101 = .ok (.ireturn, 1) := by decide +kernel
theorem dX1_holds_102 : decode cX1_holds 102 = .ok (.iload_n 3, 1) := by decide +kernel
theorem dX1_holds_103 : decode cX1_holds 103 = .ok (.iload 4, 2) := by decide +kernel
theorem dX1_holds_105 : decode cX1_holds 105 = .ok (.if_icmp .lt 7, 3) := by decide +kernel
theorem dX1_holds_108 : decode cX1_holds 108 = .ok (.iconst 1, 1) := by decide +kernel
theorem dX1_holds_109 : decode cX1_holds 109 = .ok (.goto 4, 3) := by decide +kernel
theorem dX1_holds_112 : decode cX1_holds 112 = .ok (.iconst 0, 1) := by decide +kernel
theorem dX1_holds_113 : decode cX1_holds 113 = .ok (.ireturn, 1) := by decide +kernel
theorem dX1_holds_114 : decode cX1_holds 114 = .ok (.iload_n 3, 1) := by decide +kernel
theorem dX1_holds_115 : decode cX1_holds 115 = .ok (.iload 4, 2) := by decide +kernel
theorem dX1_holds_117 : decode cX1_holds 117 = .ok (.if_icmp .ge 7, 3) := by decide +kernel
theorem dX1_holds_120 : decode cX1_holds 120 = .ok (.iconst 1, 1) := by decide +kernel
theorem dX1_holds_121 : decode cX1_holds 121 = .ok (.goto 4, 3) := by decide +kernel
theorem dX1_holds_124 : decode cX1_holds 124 = .ok (.iconst 0, 1) := by decide +kernel
theorem dX1_holds_125 : decode cX1_holds 125 = .ok (.ireturn, 1) := by decide +kernel
theorem dX1_holds_126 : decode cX1_holds 126 = .ok (.iload_n 3, 1) := by decide +kernel
theorem dX1_holds_127 : decode cX1_holds 127 = .ok (.iload 4, 2) := by decide +kernel
theorem dX1_holds_129 : decode cX1_holds 129 = .ok (.if_icmp .le 7, 3) := by decide +kernel
theorem dX1_holds_132 : decode cX1_holds 132 = .ok (.iconst 1, 1) := by decide +kernel
theorem dX1_holds_133 : decode cX1_holds 133 = .ok (.goto 4, 3) := by decide +kernel
theorem dX1_holds_136 : decode cX1_holds 136 = .ok (.iconst 0, 1) := by decide +kernel
theorem dX1_holds_137 : decode cX1_holds 137 = .ok (.ireturn, 1) := by decide +kernel
theorem dX1_holds_138 : decode cX1_holds 138 = .ok (.iload_n 3, 1) := by decide +kernel
theorem dX1_holds_139 : decode cX1_holds 139 = .ok (.iload 4, 2) := by decide +kernel
theorem dX1_holds_141 : decode cX1_holds 141 = .ok (.if_icmp .gt 7, 3) := by decide +kernel
theorem dX1_holds_144 : decode cX1_holds 144 = .ok (.iconst 1, 1) := by decide +kernel
theorem dX1_holds_145 : decode cX1_holds 145 = .ok (.goto 4, 3) := by decide +kernel
theorem dX1_holds_148 : decode cX1_holds 148 = .ok (.iconst 0, 1) := by decide +kernel
theorem dX1_holds_149 : decode cX1_holds 149 = .ok (.ireturn, 1) := by decide +kernel
theorem dX1_holds_150 : decode cX1_holds 150 = .ok (.iload_n 1, 1) := by decide +kernel
theorem dX1_holds_151 : decode cX1_holds 151 = .ok (.iload_n 2, 1) := by decide +kernel
theorem dX1_holds_152 : decode cX1_holds 152 = .ok (.if_icmp .lt 7, 3) := by decide +kernel
theorem dX1_holds_155 : decode cX1_holds 155 = .ok (.iconst 1, 1) := by decide +kernel
theorem dX1_holds_156 : decode cX1_holds 156 = .ok (.goto 4, 3) := by decide +kernel
theorem dX1_holds_159 : decode cX1_holds 159 = .ok (.iconst 0, 1) := by decide +kernel
theorem dX1_holds_160 : decode cX1_holds 160 = .ok (.ireturn, 1) := by decide +kernel
theorem dX1_holds_161 : decode cX1_holds 161 = .ok (.iload_n 1, 1) := by decide +kernel
theorem dX1_holds_162 : decode cX1_holds 162 = .ok (.iload_n 2, 1) := by decide +kernel
theorem dX1_holds_163 : decode cX1_holds 163 = .ok (.if_icmp .ge 7, 3) := by decide +kernel
theorem dX1_holds_166 : decode cX1_holds 166 = .ok (.iconst 1, 1) := by decide +kernel
theorem dX1_holds_167 : decode cX1_holds 167 = .ok (.goto 4, 3) := by decide +kernel
theorem dX1_holds_170 : decode cX1_holds 170 = .ok (.iconst 0, 1) := by decide +kernel
theorem dX1_holds_171 : decode cX1_holds 171 = .ok (.ireturn, 1) := by decide +kernel
theorem dX1_holds_172 : decode cX1_holds 172 = .ok (.iload_n 1, 1) := by decide +kernel
theorem dX1_holds_173 : decode cX1_holds 173 = .ok (.iload_n 2, 1) := by decide +kernel
theorem dX1_holds_174 : decode cX1_holds 174 = .ok (.if_icmp .le 7, 3) := by decide +kernel
theorem dX1_holds_177 : decode cX1_holds 177 = .ok (.iconst 1, 1) := by decide +kernel
theorem dX1_holds_178 : decode cX1_holds 178 = .ok (.goto 4, 3) := by decide +kernel
theorem dX1_holds_181 : decode cX1_holds 181 = .ok (.iconst 0, 1) := by decide +kernel
theorem dX1_holds_182 : decode cX1_holds 182 = .ok (.ireturn, 1) := by decide +kernel
theorem dX1_holds_183 : decode cX1_holds 183 = .ok (.iload_n 1, 1) := by decide +kernel
theorem dX1_holds_184 : decode cX1_holds 184 = .ok (.iload_n 2, 1) := by decide +kernel
theorem dX1_holds_185 : decode cX1_holds 185 = .ok (.if_icmp .gt 7, 3) := by decide +kernel
theorem dX1_holds_188 : decode cX1_holds 188 = .ok (.iconst 1, 1) := by decide +kernel
theorem dX1_holds_189 : decode cX1_holds 189 = .ok (.goto 4, 3) := by decide +kernel
theorem dX1_holds_192 : decode cX1_holds 192 = .ok (.iconst 0, 1) := by decide +kernel
theorem dX1_holds_193 : decode cX1_holds 193 = .ok (.ireturn, 1) := by decide +kernel
