theorem d_Md_init_0 : decode b_Md_init 0 = .ok (.aload_n 0, 1) := by decide +kernel
theorem d_Md_init_1 : decode b_Md_init 1 = .ok (.invokespecial 1, 3) := by decide +kernel
theorem d_Md_init_4 : decode b_Md_init 4 = .ok (.aload_n 0, 1) := by decide +kernel
theorem d_Md_init_5 : decode b_Md_init 5 = .ok (.bipush (100), 2) := by decide +kernel
theorem d_Md_init_7 : decode b_Md_init 7 = .ok (.putfield 7, 3) := by decide +kernel
theorem d_Md_init_10 : decode b_Md_init 10 = .ok (.aload_n 0, 1) := by decide +kernel
theorem d_Md_init_11 : decode b_Md_init 11 = .ok (.bipush (10), 2) := by decide +kernel
theorem d_Md_init_13 : decode b_Md_init 13 = .ok (.putfield 13, 3) := by decide +kernel
theorem d_Md_init_16 : decode b_Md_init 16 = .ok (.aload_n 0, 1) := by decide +kernel
theorem d_Md_init_17 : decode b_Md_init 17 = .ok (.iconst 4, 1) := by decide +kernel
theorem d_Md_init_18 : decode b_Md_init 18 = .ok (.newarray .int, 2) := by decide +kernel
theorem d_Md_init_20 : decode b_Md_init 20 = .ok (.putfield 16, 3) := by decide +kernel
theorem d_Md_init_23 : decode b_Md_init 23 = .ok (.aload_n 0, 1) := by decide +kernel
theorem d_Md_init_24 : decode b_Md_init 24 = .ok (.iconst 4, 1) := by decide +kernel
theorem d_Md_init_25 : decode b_Md_init 25 = .ok (.newarray .boolean, 2) := by decide +kernel
theorem d_Md_init_27 : decode b_Md_init 27 = .ok (.putfield 20, 3) := by decide +kernel
theorem d_Md_init_30 : decode b_Md_init 30 = .ok (.aload_n 0, 1) := by decide +kernel
theorem d_Md_init_31 : decode b_Md_init 31 = .ok (.bipush (6), 2) := by decide +kernel
theorem d_Md_init_33 : decode b_Md_init 33 = .ok (.newarray .int, 2) := by decide +kernel
theorem d_Md_init_35 : decode b_Md_init 35 = .ok (.putfield 24, 3) := by decide +kernel
theorem d_Md_init_38 : decode b_Md_init 38 = .ok (.aload_n 0, 1) := by decide +kernel
theorem d_Md_init_39 : decode b_Md_init 39 = .ok (.bipush (6), 2) := by decide +kernel
theorem d_Md_init_41 : decode b_Md_init 41 = .ok (.newarray .int, 2) := by decide +kernel
theorem d_Md_init_43 : decode b_Md_init 43 = .ok (.putfield 27, 3) := by decide +kernel
theorem d_Md_init_46 : decode b_Md_init 46 = .ok (.aload_n 0, 1) := by decide +kernel
theorem d_Md_init_47 : decode b_Md_init 47 = .ok (.bipush (30), 2) := by decide +kernel
theorem d_Md_init_49 : decode b_Md_init 49 = .ok (.newarray .int, 2) := by decide +kernel
theorem d_Md_init_51 : decode b_Md_init 51 = .ok (.putfield 30, 3) := by decide +kernel
theorem d_Md_init_54 : decode b_Md_init 54 = .ok (.aload_n 0, 1) := by decide +kernel
theorem d_Md_init_55 : decode b_Md_init 55 = .ok (.bipush (30), 2) := by decide +kernel
theorem d_Md_init_57 : decode b_Md_init 57 = .ok (.newarray .int, 2) := by decide +kernel
theorem d_Md_init_59 : decode b_Md_init 59 = .ok (.putfield 33, 3) := by decide +kernel
theorem d_Md_init_62 : decode b_Md_init 62 = .ok (.aload_n 0, 1) := by decide +kernel
theorem d_Md_init_63 : decode b_Md_init 63 = .ok (.bipush (30), 2) := by decide +kernel
theorem d_Md_init_65 : decode b_Md_init 65 = .ok (.newarray .int, 2) := by decide +kernel
theorem d_Md_init_67 : decode b_Md_init 67 = .ok (.putfield 36, 3) := by decide +kernel
theorem d_Md_init_70 : decode b_Md_init 70 = .ok (.aload_n 0, 1) := by decide +kernel
theorem d_Md_init_71 : decode b_Md_init 71 = .ok (.bipush (30), 2) := by decide +kernel
theorem d_Md_init_73 : decode b_Md_init 73 = .ok (.newarray .int, 2) := by decide +kernel
theorem d_Md_init_75 : decode b_Md_init 75 = .ok (.putfield 39, 3) := by decide +kernel
theorem d_Md_init_78 : decode b_Md_init 78 = .ok (.aload_n 0, 1) := by decide +kernel
theorem d_Md_init_79 : decode b_Md_init 79 = .ok (.bipush (30), 2) := by decide +kernel
theorem d_Md_init_81 : decode b_Md_init 81 = .ok (.newarray .int, 2) := by decide +kernel
theorem d_Md_init_83 : decode b_Md_init 83 = .ok (.putfield 42, 3) := by decide +kernel
theorem d_Md_init_86 : decode b_Md_init 86 = .ok (.aload_n 0, 1) := by decide +kernel
theorem d_Md_init_87 : decode b_Md_init 87 = .ok (.bipush (30), 2) := by decide +kernel
theorem d_Md_init_89 : decode b_Md_init 89 = .ok (.newarray .int, 2) := by decide +kernel
theorem d_Md_init_91 : decode b_Md_init 91 = .ok (.putfield 45, 3) := by decide +kernel
theorem d_Md_init_94 : decode b_Md_init 94 = .ok (.aload_n 0, 1) := by decide +kernel
theorem d_Md_init_95 : decode b_Md_init 95 = .ok (.bipush (30), 2) := by decide +kernel
theorem d_Md_init_97 : decode b_Md_init 97 = .ok (.newarray .int, 2) := by decide +kernel
theorem d_Md_init_99 : decode b_Md_init 99 = .ok (.putfield 48, 3) := by decide +kernel
theorem d_Md_init_102 : decode b_Md_init 102 = .ok (.aload_n 0, 1) := by decide +kernel
theorem d_Md_init_103 : decode b_Md_init 103 = .ok (.bipush (30), 2) := by decide +kernel
theorem d_Md_init_105 : decode b_Md_init 105 = .ok (.newarray .int, 2) := by decide +kernel
theorem d_Md_init_107 : decode b_Md_init 107 = .ok (.putfield 51, 3) := by decide +kernel
theorem d_Md_init_110 : decode b_Md_init 110 = .ok (.aload_n 0, 1) := by decide +kernel
theorem d_Md_init_111 : decode b_Md_init 111 = .ok (.bipush (30), 2) := by decide +kernel
theorem d_Md_init_113 : decode b_Md_init 113 = .ok (.newarray .int, 2) := by decide +kernel
theorem d_Md_init_115 : decode b_Md_init 115 = .ok (.putfield 54, 3) := by decide +kernel
theorem d_Md_init_118 : decode b_Md_init 118 = .ok (.aload_n 0, 1) := by decide +kernel
theorem d_Md_init_119 : decode b_Md_init 119 = .ok (.bipush (30), 2) := by decide +kernel
theorem d_Md_init_121 : decode b_Md_init 121 = .ok (.newarray .int, 2) := by decide +kernel
theorem d_Md_init_123 : decode b_Md_init 123 = .ok (.putfield 57, 3) := by decide +kernel
theorem d_Md_init_126 : decode b_Md_init 126 = .ok (.aload_n 0, 1) := by decide +kernel
theorem d_Md_init_127 : decode b_Md_init 127 = .ok (.bipush (30), 2) := by decide +kernel
theorem d_Md_init_129 : decode b_Md_init 129 = .ok (.newarray .int, 2) := by decide +kernel
theorem d_Md_init_131 : decode b_Md_init 131 = .ok (.putfield 60, 3) := by decide +kernel
theorem d_Md_init_134 : decode b_Md_init 134 = .ok (.aload_n 0, 1) := by decide +kernel
theorem d_Md_init_135 : decode b_Md_init 135 = .ok (.bipush (30), 2) := by decide +kernel
theorem d_Md_init_137 : decode b_Md_init 137 = .ok (.newarray .int, 2) := by decide +kernel
theorem d_Md_init_139 : decode b_Md_init 139 = .ok (.putfield 63, 3) := by decide +kernel
theorem d_Md_init_142 : decode b_Md_init 142 = .ok (.aload_n 0, 1) := by decide +kernel
theorem d_Md_init_143 : decode b_Md_init 143 = .ok (.bipush (30), 2) := by decide +kernel
theorem d_Md_init_145 : decode b_Md_init 145 = .ok (.newarray .int, 2) := by decide +kernel
theorem d_Md_init_147 : decode b_Md_init 147 = .ok (.putfield 66, 3) := by decide +kernel
theorem d_Md_init_150 : decode b_Md_init 150 = .ok (.aload_n 0, 1) := by decide +kernel
theorem d_Md_init_151 : decode b_Md_init 151 = .ok (.bipush (120), 2) := by decide +kernel
theorem d_Md_init_153 : decode b_Md_init 153 = .ok (.newarray .int, 2) := by decide +kernel
theorem d_Md_init_155 : decode b_Md_init 155 = .ok (.putfield 69, 3) := by decide +kernel
theorem d_Md_init_158 : decode b_Md_init 158 = .ok (.aload_n 0, 1) := by decide +kernel
theorem d_Md_init_159 : decode b_Md_init 159 = .ok (.bipush (8), 2) := by decide +kernel
theorem d_Md_init_161 : decode b_Md_init 161 = .ok (.newarray .int, 2) := by decide +kernel
theorem d_Md_init_163 : decode b_Md_init 163 = .ok (.putfield 72, 3) := by decide +kernel
theorem d_Md_init_166 : decode b_Md_init 166 = .ok (.aload_n 0, 1) := by decide +kernel
theorem d_Md_init_167 : decode b_Md_init 167 = .ok (.bipush (8), 2) := by decide +kernel
theorem d_Md_init_169 : decode b_Md_init 169 = .ok (.newarray .int, 2) := by decide +kernel
theorem d_Md_init_171 : decode b_Md_init 171 = .ok (.putfield 75, 3) := by decide +kernel
theorem d_Md_init_174 : decode b_Md_init 174 = .ok (.aload_n 0, 1) := by decide +kernel
theorem d_Md_init_175 : decode b_Md_init 175 = .ok (.bipush (8), 2) := by decide +kernel
theorem d_Md_init_177 : decode b_Md_init 177 = .ok (.newarray .int, 2) := by decide +kernel
theorem d_Md_init_179 : decode b_Md_init 179 = .ok (.putfield 78, 3) := by decide +kernel
theorem d_Md_init_182 : decode b_Md_init 182 = .ok (.aload_n 0, 1) := by decide +kernel
theorem d_Md_init_183 : decode b_Md_init 183 = .ok (.iconst (-1), 1) := by decide +kernel
theorem d_Md_init_184 : decode b_Md_init 184 = .ok (.putfield 81, 3) := by decide +kernel
theorem d_Md_init_187 : decode b_Md_init 187 = .ok (.aload_n 0, 1) := by decide +kernel
theorem d_Md_init_188 : decode b_Md_init 188 = .ok (.iconst (-1), 1) := by decide +kernel
theorem d_Md_init_189 : decode b_Md_init 189 = .ok (.putfield 84, 3) := by decide +kernel
theorem d_Md_init_192 : decode b_Md_init 192 = .ok (.aload_n 0, 1) := by decide +kernel
theorem d_Md_init_193 : decode b_Md_init 193 = .ok (.sipush (260), 3) := by decide +kernel
theorem d_Md_init_196 : decode b_Md_init 196 = .ok (.newarray .int, 2) := by decide +kernel
theorem d_Md_init_198 : decode b_Md_init 198 = .ok (.putfield 87, 3) := by decide +kernel
theorem d_Md_init_201 : decode b_Md_init 201 = .ok (.aload_n 0, 1) := by decide +kernel
theorem d_Md_init_202 : decode b_Md_init 202 = .ok (.sipush (260), 3) := by decide +kernel
theorem d_Md_init_205 : decode b_Md_init 205 = .ok (.newarray .int, 2) := by decide +kernel
theorem d_Md_init_207 : decode b_Md_init 207 = .ok (.putfield 90, 3) := by decide +kernel
theorem d_Md_init_210 : decode b_Md_init 210 = .ok (.aload_n 0, 1) := by decide +kernel
theorem d_Md_init_211 : decode b_Md_init 211 = .ok (.bipush (30), 2) := by decide +kernel
theorem d_Md_init_213 : decode b_Md_init 213 = .ok (.newarray .int, 2) := by decide +kernel
theorem d_Md_init_215 : decode b_Md_init 215 = .ok (.putfield 93, 3) := by decide +kernel
theorem d_Md_init_218 : decode b_Md_init 218 = .ok (.aload_n 0, 1) := by decide +kernel
theorem d_Md_init_219 : decode b_Md_init 219 = .ok (.bipush (30), 2) := by decide +kernel
theorem d_Md_init_221 : decode b_Md_init 221 = .ok (.newarray .int, 2) := by decide +kernel
theorem d_Md_init_223 : decode b_Md_init 223 = .ok (.putfield 96, 3) := by decide +kernel
theorem d_Md_init_226 : decode b_Md_init 226 = .ok (.aload_n 0, 1) := by decide +kernel
theorem d_Md_init_227 : decode b_Md_init 227 = .ok (.bipush (30), 2) := by decide +kernel
theorem d_Md_init_229 : decode b_Md_init 229 = .ok (.newarray .int, 2) := by decide +kernel
theorem d_Md_init_231 : decode b_Md_init 231 = .ok (.putfield 99, 3) := by decide +kernel
theorem d_Md_init_234 : decode b_Md_init 234 = .ok (.aload_n 0, 1) := by decide +kernel
theorem d_Md_init_235 : decode b_Md_init 235 = .ok (.bipush (30), 2) := by decide +kernel
theorem d_Md_init_237 : decode b_Md_init 237 = .ok (.newarray .int, 2) := by decide +kernel
theorem d_Md_init_239 : decode b_Md_init 239 = .ok (.putfield 102, 3) := by decide +kernel
theorem d_Md_init_242 : decode b_Md_init 242 = .ok (.aload_n 0, 1) := by decide +kernel
theorem d_Md_init_243 : decode b_Md_init 243 = .ok (.bipush (30), 2) := by decide +kernel
theorem d_Md_init_245 : decode b_Md_init 245 = .ok (.newarray .int, 2) := by decide +kernel
theorem d_Md_init_247 : decode b_Md_init 247 = .ok (.putfield 105, 3) := by decide +kernel
theorem d_Md_init_250 : decode b_Md_init 250 = .ok (.aload_n 0, 1) := by decide +kernel
theorem d_Md_init_251 : decode b_Md_init 251 = .ok (.bipush (30), 2) := by decide +kernel
theorem d_Md_init_253 : decode b_Md_init 253 = .ok (.newarray .int, 2) := by decide +kernel
theorem d_Md_init_255 : decode b_Md_init 255 = .ok (.putfield 108, 3) := by decide +kernel
theorem d_Md_init_258 : decode b_Md_init 258 = .ok (.aload_n 0, 1) := by decide +kernel
theorem d_Md_init_259 : decode b_Md_init 259 = .ok (.bipush (120), 2) := by decide +kernel
theorem d_Md_init_261 : decode b_Md_init 261 = .ok (.newarray .int, 2) := by decide +kernel
theorem d_Md_init_263 : decode b_Md_init 263 = .ok (.putfield 111, 3) := by decide +kernel
theorem d_Md_init_266 : decode b_Md_init 266 = .ok (.aload_n 0, 1) := by decide +kernel
theorem d_Md_init_267 : decode b_Md_init 267 = .ok (.bipush (6), 2) := by decide +kernel
theorem d_Md_init_269 : decode b_Md_init 269 = .ok (.newarray .int, 2) := by decide +kernel
theorem d_Md_init_271 : decode b_Md_init 271 = .ok (.putfield 114, 3) := by decide +kernel
theorem d_Md_init_274 : decode b_Md_init 274 = .ok (.return_, 1) := by decide +kernel
theorem d_Md_in_0 : decode b_Md_in 0 = .ok (.iload_n 0, 1) := by decide +kernel
theorem d_Md_in_1 : decode b_Md_in 1 = .ok (.iload_n 1, 1) := by decide +kernel
theorem d_Md_in_2 : decode b_Md_in 2 = .ok (.if_icmp .lt (12), 3) := by decide +kernel
theorem d_Md_in_5 : decode b_Md_in 5 = .ok (.iload_n 0, 1) := by decide +kernel
theorem d_Md_in_6 : decode b_Md_in 6 = .ok (.iload_n 2, 1) := by decide +kernel
theorem d_Md_in_7 : decode b_Md_in 7 = .ok (.if_icmp .gt (7), 3) := by decide +kernel
theorem d_Md_in_10 : decode b_Md_in 10 = .ok (.iconst 1, 1) := by decide +kernel
theorem d_Md_in_11 : decode b_Md_in 11 = .ok (.goto (4), 3) := by decide +kernel
theorem d_Md_in_14 : decode b_Md_in 14 = .ok (.iconst 0, 1) := by decide +kernel
theorem d_Md_in_15 : decode b_Md_in 15 = .ok (.ireturn, 1) := by decide +kernel
theorem d_Md_isRack_0 : decode b_Md_isRack 0 = .ok (.iload_n 1, 1) := by decide +kernel
theorem d_Md_isRack_1 : decode b_Md_isRack 1 = .ok (.iconst 0, 1) := by decide +kernel
theorem d_Md_isRack_2 : decode b_Md_isRack 2 = .ok (.aload_n 0, 1) := by decide +kernel
theorem d_Md_isRack_3 : decode b_Md_isRack 3 = .ok (.getfield 117, 3) := by decide +kernel
theorem d_Md_isRack_6 : decode b_Md_isRack 6 = .ok (.iconst 1, 1) := by decide +kernel
theorem d_Md_isRack_7 : decode b_Md_isRack 7 = .ok (.isub, 1) := by decide +kernel
theorem d_Md_isRack_8 : decode b_Md_isRack 8 = .ok (.invokestatic 120, 3) := by decide +kernel
theorem d_Md_isRack_11 : decode b_Md_isRack 11 = .ok (.ireturn, 1) := by decide +kernel
theorem d_Md_isJob_0 : decode b_Md_isJob 0 = .ok (.iload_n 1, 1) := by decide +kernel
theorem d_Md_isJob_1 : decode b_Md_isJob 1 = .ok (.iconst 0, 1) := by decide +kernel
theorem d_Md_isJob_2 : decode b_Md_isJob 2 = .ok (.aload_n 0, 1) := by decide +kernel
theorem d_Md_isJob_3 : decode b_Md_isJob 3 = .ok (.getfield 124, 3) := by decide +kernel
theorem d_Md_isJob_6 : decode b_Md_isJob 6 = .ok (.iconst 1, 1) := by decide +kernel
theorem d_Md_isJob_7 : decode b_Md_isJob 7 = .ok (.isub, 1) := by decide +kernel
theorem d_Md_isJob_8 : decode b_Md_isJob 8 = .ok (.invokestatic 120, 3) := by decide +kernel
theorem d_Md_isJob_11 : decode b_Md_isJob 11 = .ok (.ireturn, 1) := by decide +kernel
theorem d_Md_rack_0 : decode b_Md_rack 0 = .ok (.iload_n 1, 1) := by decide +kernel
theorem d_Md_rack_1 : decode b_Md_rack 1 = .ok (.iconst 1, 1) := by decide +kernel
theorem d_Md_rack_2 : decode b_Md_rack 2 = .ok (.bipush (16), 2) := by decide +kernel
theorem d_Md_rack_4 : decode b_Md_rack 4 = .ok (.invokestatic 120, 3) := by decide +kernel
theorem d_Md_rack_7 : decode b_Md_rack 7 = .ok (.ifCond .ne (6), 3) := by decide +kernel
theorem d_Md_rack_10 : decode b_Md_rack 10 = .ok (.bipush (-3), 2) := by decide +kernel
theorem d_Md_rack_12 : decode b_Md_rack 12 = .ok (.ireturn, 1) := by decide +kernel
theorem d_Md_rack_13 : decode b_Md_rack 13 = .ok (.aload_n 0, 1) := by decide +kernel
theorem d_Md_rack_14 : decode b_Md_rack 14 = .ok (.getfield 117, 3) := by decide +kernel
theorem d_Md_rack_17 : decode b_Md_rack 17 = .ok (.iconst 4, 1) := by decide +kernel
theorem d_Md_rack_18 : decode b_Md_rack 18 = .ok (.if_icmp .ne (6), 3) := by decide +kernel
theorem d_Md_rack_21 : decode b_Md_rack 21 = .ok (.bipush (-5), 2) := by decide +kernel
theorem d_Md_rack_23 : decode b_Md_rack 23 = .ok (.ireturn, 1) := by decide +kernel
theorem d_Md_rack_24 : decode b_Md_rack 24 = .ok (.aload_n 0, 1) := by decide +kernel
theorem d_Md_rack_25 : decode b_Md_rack 25 = .ok (.getfield 16, 3) := by decide +kernel
theorem d_Md_rack_28 : decode b_Md_rack 28 = .ok (.aload_n 0, 1) := by decide +kernel
theorem d_Md_rack_29 : decode b_Md_rack 29 = .ok (.getfield 117, 3) := by decide +kernel
theorem d_Md_rack_32 : decode b_Md_rack 32 = .ok (.iload_n 1, 1) := by decide +kernel
theorem d_Md_rack_33 : decode b_Md_rack 33 = .ok (.iastore, 1) := by decide +kernel
theorem d_Md_rack_34 : decode b_Md_rack 34 = .ok (.aload_n 0, 1) := by decide +kernel
theorem d_Md_rack_35 : decode b_Md_rack 35 = .ok (.dup, 1) := by decide +kernel
theorem d_Md_rack_36 : decode b_Md_rack 36 = .ok (.getfield 117, 3) := by decide +kernel
theorem d_Md_rack_39 : decode b_Md_rack 39 = .ok (.iconst 1, 1) := by decide +kernel
theorem d_Md_rack_40 : decode b_Md_rack 40 = .ok (.iadd, 1) := by decide +kernel
theorem d_Md_rack_41 : decode b_Md_rack 41 = .ok (.putfield 117, 3) := by decide +kernel
theorem d_Md_rack_44 : decode b_Md_rack 44 = .ok (.aload_n 0, 1) := by decide +kernel
theorem d_Md_rack_45 : decode b_Md_rack 45 = .ok (.getfield 117, 3) := by decide +kernel
theorem d_Md_rack_48 : decode b_Md_rack 48 = .ok (.iconst 1, 1) := by decide +kernel
theorem d_Md_rack_49 : decode b_Md_rack 49 = .ok (.isub, 1) := by decide +kernel
theorem d_Md_rack_50 : decode b_Md_rack 50 = .ok (.ireturn, 1) := by decide +kernel
theorem d_Md_drain_0 : decode b_Md_drain 0 = .ok (.aload_n 0, 1) := by decide +kernel
theorem d_Md_drain_1 : decode b_Md_drain 1 = .ok (.iload_n 1, 1) := by decide +kernel
theorem d_Md_drain_2 : decode b_Md_drain 2 = .ok (.invokevirtual 127, 3) := by decide +kernel
theorem d_Md_drain_5 : decode b_Md_drain 5 = .ok (.ifCond .ne (6), 3) := by decide +kernel
theorem d_Md_drain_8 : decode b_Md_drain 8 = .ok (.bipush (-2), 2) := by decide +kernel
theorem d_Md_drain_10 : decode b_Md_drain 10 = .ok (.ireturn, 1) := by decide +kernel
theorem d_Md_drain_11 : decode b_Md_drain 11 = .ok (.aload_n 0, 1) := by decide +kernel
theorem d_Md_drain_12 : decode b_Md_drain 12 = .ok (.getfield 20, 3) := by decide +kernel
theorem d_Md_drain_15 : decode b_Md_drain 15 = .ok (.iload_n 1, 1) := by decide +kernel
theorem d_Md_drain_16 : decode b_Md_drain 16 = .ok (.baload, 1) := by decide +kernel
theorem d_Md_drain_17 : decode b_Md_drain 17 = .ok (.istore_n 3, 1) := by decide +kernel
theorem d_Md_drain_18 : decode b_Md_drain 18 = .ok (.aload_n 0, 1) := by decide +kernel
theorem d_Md_drain_19 : decode b_Md_drain 19 = .ok (.getfield 20, 3) := by decide +kernel
theorem d_Md_drain_22 : decode b_Md_drain 22 = .ok (.iload_n 1, 1) := by decide +kernel
theorem d_Md_drain_23 : decode b_Md_drain 23 = .ok (.iload_n 2, 1) := by decide +kernel
theorem d_Md_drain_24 : decode b_Md_drain 24 = .ok (.bastore, 1) := by decide +kernel
theorem d_Md_drain_25 : decode b_Md_drain 25 = .ok (.iload_n 3, 1) := by decide +kernel
theorem d_Md_drain_26 : decode b_Md_drain 26 = .ok (.ifCond .eq (7), 3) := by decide +kernel
theorem d_Md_drain_29 : decode b_Md_drain 29 = .ok (.iconst 1, 1) := by decide +kernel
theorem d_Md_drain_30 : decode b_Md_drain 30 = .ok (.goto (4), 3) := by decide +kernel
theorem d_Md_drain_33 : decode b_Md_drain 33 = .ok (.iconst 0, 1) := by decide +kernel
theorem d_Md_drain_34 : decode b_Md_drain 34 = .ok (.ireturn, 1) := by decide +kernel
theorem d_Md_leave_0 : decode b_Md_leave 0 = .ok (.iconst 0, 1) := by decide +kernel
theorem d_Md_leave_1 : decode b_Md_leave 1 = .ok (.istore_n 2, 1) := by decide +kernel
theorem d_Md_leave_2 : decode b_Md_leave 2 = .ok (.iload_n 2, 1) := by decide +kernel
theorem d_Md_leave_3 : decode b_Md_leave 3 = .ok (.iconst 4, 1) := by decide +kernel
theorem d_Md_leave_4 : decode b_Md_leave 4 = .ok (.if_icmp .ge (20), 3) := by decide +kernel
theorem d_Md_leave_7 : decode b_Md_leave 7 = .ok (.aload_n 0, 1) := by decide +kernel
theorem d_Md_leave_8 : decode b_Md_leave 8 = .ok (.getfield 69, 3) := by decide +kernel
theorem d_Md_leave_11 : decode b_Md_leave 11 = .ok (.iconst 4, 1) := by decide +kernel
theorem d_Md_leave_12 : decode b_Md_leave 12 = .ok (.iload_n 1, 1) := by decide +kernel
theorem d_Md_leave_13 : decode b_Md_leave 13 = .ok (.imul, 1) := by decide +kernel
theorem d_Md_leave_14 : decode b_Md_leave 14 = .ok (.iload_n 2, 1) := by decide +kernel
theorem d_Md_leave_15 : decode b_Md_leave 15 = .ok (.iadd, 1) := by decide +kernel
theorem d_Md_leave_16 : decode b_Md_leave 16 = .ok (.iconst 0, 1) := by decide +kernel
theorem d_Md_leave_17 : decode b_Md_leave 17 = .ok (.iastore, 1) := by decide +kernel
theorem d_Md_leave_18 : decode b_Md_leave 18 = .ok (.iinc 2 (1), 3) := by decide +kernel
theorem d_Md_leave_21 : decode b_Md_leave 21 = .ok (.goto (-19), 3) := by decide +kernel
theorem d_Md_leave_24 : decode b_Md_leave 24 = .ok (.aload_n 0, 1) := by decide +kernel
theorem d_Md_leave_25 : decode b_Md_leave 25 = .ok (.getfield 63, 3) := by decide +kernel
theorem d_Md_leave_28 : decode b_Md_leave 28 = .ok (.iload_n 1, 1) := by decide +kernel
theorem d_Md_leave_29 : decode b_Md_leave 29 = .ok (.iconst 0, 1) := by decide +kernel
theorem d_Md_leave_30 : decode b_Md_leave 30 = .ok (.iastore, 1) := by decide +kernel
theorem d_Md_leave_31 : decode b_Md_leave 31 = .ok (.return_, 1) := by decide +kernel
theorem d_Md_fail_0 : decode b_Md_fail 0 = .ok (.aload_n 0, 1) := by decide +kernel
theorem d_Md_fail_1 : decode b_Md_fail 1 = .ok (.iload_n 1, 1) := by decide +kernel
theorem d_Md_fail_2 : decode b_Md_fail 2 = .ok (.invokevirtual 127, 3) := by decide +kernel
theorem d_Md_fail_5 : decode b_Md_fail 5 = .ok (.ifCond .ne (6), 3) := by decide +kernel
theorem d_Md_fail_8 : decode b_Md_fail 8 = .ok (.bipush (-2), 2) := by decide +kernel
theorem d_Md_fail_10 : decode b_Md_fail 10 = .ok (.ireturn, 1) := by decide +kernel
theorem d_Md_fail_11 : decode b_Md_fail 11 = .ok (.iconst 0, 1) := by decide +kernel
theorem d_Md_fail_12 : decode b_Md_fail 12 = .ok (.istore_n 2, 1) := by decide +kernel
theorem d_Md_fail_13 : decode b_Md_fail 13 = .ok (.iconst 0, 1) := by decide +kernel
theorem d_Md_fail_14 : decode b_Md_fail 14 = .ok (.istore_n 3, 1) := by decide +kernel
theorem d_Md_fail_15 : decode b_Md_fail 15 = .ok (.iload_n 3, 1) := by decide +kernel
theorem d_Md_fail_16 : decode b_Md_fail 16 = .ok (.aload_n 0, 1) := by decide +kernel
theorem d_Md_fail_17 : decode b_Md_fail 17 = .ok (.getfield 124, 3) := by decide +kernel
theorem d_Md_fail_20 : decode b_Md_fail 20 = .ok (.if_icmp .ge (98), 3) := by decide +kernel
theorem d_Md_fail_23 : decode b_Md_fail 23 = .ok (.aload_n 0, 1) := by decide +kernel
theorem d_Md_fail_24 : decode b_Md_fail 24 = .ok (.getfield 51, 3) := by decide +kernel
theorem d_Md_fail_27 : decode b_Md_fail 27 = .ok (.iload_n 3, 1) := by decide +kernel
theorem d_Md_fail_28 : decode b_Md_fail 28 = .ok (.iaload, 1) := by decide +kernel
theorem d_Md_fail_29 : decode b_Md_fail 29 = .ok (.iconst 1, 1) := by decide +kernel
theorem d_Md_fail_30 : decode b_Md_fail 30 = .ok (.if_icmp .ne (82), 3) := by decide +kernel
theorem d_Md_fail_33 : decode b_Md_fail 33 = .ok (.aload_n 0, 1) := by decide +kernel
theorem d_Md_fail_34 : decode b_Md_fail 34 = .ok (.getfield 69, 3) := by decide +kernel
theorem d_Md_fail_37 : decode b_Md_fail 37 = .ok (.iconst 4, 1) := by decide +kernel
theorem d_Md_fail_38 : decode b_Md_fail 38 = .ok (.iload_n 3, 1) := by decide +kernel
theorem d_Md_fail_39 : decode b_Md_fail 39 = .ok (.imul, 1) := by decide +kernel
theorem d_Md_fail_40 : decode b_Md_fail 40 = .ok (.iload_n 1, 1) := by decide +kernel
theorem d_Md_fail_41 : decode b_Md_fail 41 = .ok (.iadd, 1) := by decide +kernel
theorem d_Md_fail_42 : decode b_Md_fail 42 = .ok (.iaload, 1) := by decide +kernel
theorem d_Md_fail_43 : decode b_Md_fail 43 = .ok (.ifCond .le (69), 3) := by decide +kernel
theorem d_Md_fail_46 : decode b_Md_fail 46 = .ok (.aload_n 0, 1) := by decide +kernel
theorem d_Md_fail_47 : decode b_Md_fail 47 = .ok (.getfield 60, 3) := by decide +kernel
theorem d_Md_fail_50 : decode b_Md_fail 50 = .ok (.iload_n 3, 1) := by decide +kernel
theorem d_Md_fail_51 : decode b_Md_fail 51 = .ok (.iaload, 1) := by decide +kernel
theorem d_Md_fail_52 : decode b_Md_fail 52 = .ok (.aload_n 0, 1) := by decide +kernel
theorem d_Md_fail_53 : decode b_Md_fail 53 = .ok (.getfield 63, 3) := by decide +kernel
theorem d_Md_fail_56 : decode b_Md_fail 56 = .ok (.iload_n 3, 1) := by decide +kernel
theorem d_Md_fail_57 : decode b_Md_fail 57 = .ok (.iaload, 1) := by decide +kernel
theorem d_Md_fail_58 : decode b_Md_fail 58 = .ok (.iadd, 1) := by decide +kernel
theorem d_Md_fail_59 : decode b_Md_fail 59 = .ok (.istore 4, 2) := by decide +kernel
theorem d_Md_fail_61 : decode b_Md_fail 61 = .ok (.aload_n 0, 1) := by decide +kernel
theorem d_Md_fail_62 : decode b_Md_fail 62 = .ok (.getfield 60, 3) := by decide +kernel
theorem d_Md_fail_65 : decode b_Md_fail 65 = .ok (.iload_n 3, 1) := by decide +kernel
theorem d_Md_fail_66 : decode b_Md_fail 66 = .ok (.aload_n 0, 1) := by decide +kernel
theorem d_Md_fail_67 : decode b_Md_fail 67 = .ok (.getfield 45, 3) := by decide +kernel
theorem d_Md_fail_70 : decode b_Md_fail 70 = .ok (.iload_n 3, 1) := by decide +kernel
theorem d_Md_fail_71 : decode b_Md_fail 71 = .ok (.iaload, 1) := by decide +kernel
theorem d_Md_fail_72 : decode b_Md_fail 72 = .ok (.ifCond .ne (12), 3) := by decide +kernel
theorem d_Md_fail_75 : decode b_Md_fail 75 = .ok (.aload_n 0, 1) := by decide +kernel
theorem d_Md_fail_76 : decode b_Md_fail 76 = .ok (.getfield 60, 3) := by decide +kernel
theorem d_Md_fail_79 : decode b_Md_fail 79 = .ok (.iload_n 3, 1) := by decide +kernel
theorem d_Md_fail_80 : decode b_Md_fail 80 = .ok (.iaload, 1) := by decide +kernel
theorem d_Md_fail_81 : decode b_Md_fail 81 = .ok (.goto (15), 3) := by decide +kernel
theorem d_Md_fail_84 : decode b_Md_fail 84 = .ok (.iload 4, 2) := by decide +kernel
theorem d_Md_fail_86 : decode b_Md_fail 86 = .ok (.iload 4, 2) := by decide +kernel
theorem d_Md_fail_88 : decode b_Md_fail 88 = .ok (.aload_n 0, 1) := by decide +kernel
theorem d_Md_fail_89 : decode b_Md_fail 89 = .ok (.getfield 45, 3) := by decide +kernel
theorem d_Md_fail_92 : decode b_Md_fail 92 = .ok (.iload_n 3, 1) := by decide +kernel
theorem d_Md_fail_93 : decode b_Md_fail 93 = .ok (.iaload, 1) := by decide +kernel
theorem d_Md_fail_94 : decode b_Md_fail 94 = .ok (.irem, 1) := by decide +kernel
theorem d_Md_fail_95 : decode b_Md_fail 95 = .ok (.isub, 1) := by decide +kernel
theorem d_Md_fail_96 : decode b_Md_fail 96 = .ok (.iastore, 1) := by decide +kernel
theorem d_Md_fail_97 : decode b_Md_fail 97 = .ok (.aload_n 0, 1) := by decide +kernel
theorem d_Md_fail_98 : decode b_Md_fail 98 = .ok (.getfield 51, 3) := by decide +kernel
theorem d_Md_fail_101 : decode b_Md_fail 101 = .ok (.iload_n 3, 1) := by decide +kernel
theorem d_Md_fail_102 : decode b_Md_fail 102 = .ok (.iconst 0, 1) := by decide +kernel
theorem d_Md_fail_103 : decode b_Md_fail 103 = .ok (.iastore, 1) := by decide +kernel
theorem d_Md_fail_104 : decode b_Md_fail 104 = .ok (.aload_n 0, 1) := by decide +kernel
theorem d_Md_fail_105 : decode b_Md_fail 105 = .ok (.iload_n 3, 1) := by decide +kernel
theorem d_Md_fail_106 : decode b_Md_fail 106 = .ok (.invokevirtual 131, 3) := by decide +kernel
theorem d_Md_fail_109 : decode b_Md_fail 109 = .ok (.iinc 2 (1), 3) := by decide +kernel
theorem d_Md_fail_112 : decode b_Md_fail 112 = .ok (.iinc 3 (1), 3) := by decide +kernel
theorem d_Md_fail_115 : decode b_Md_fail 115 = .ok (.goto (-100), 3) := by decide +kernel
theorem d_Md_fail_118 : decode b_Md_fail 118 = .ok (.iload_n 2, 1) := by decide +kernel
theorem d_Md_fail_119 : decode b_Md_fail 119 = .ok (.ireturn, 1) := by decide +kernel
theorem d_Md_licences_0 : decode b_Md_licences 0 = .ok (.iload_n 1, 1) := by decide +kernel
theorem d_Md_licences_1 : decode b_Md_licences 1 = .ok (.iconst 0, 1) := by decide +kernel
theorem d_Md_licences_2 : decode b_Md_licences 2 = .ok (.bipush (100), 2) := by decide +kernel
theorem d_Md_licences_4 : decode b_Md_licences 4 = .ok (.invokestatic 120, 3) := by decide +kernel
theorem d_Md_licences_7 : decode b_Md_licences 7 = .ok (.ifCond .ne (6), 3) := by decide +kernel
theorem d_Md_licences_10 : decode b_Md_licences 10 = .ok (.bipush (-3), 2) := by decide +kernel
theorem d_Md_licences_12 : decode b_Md_licences 12 = .ok (.ireturn, 1) := by decide +kernel
theorem d_Md_licences_13 : decode b_Md_licences 13 = .ok (.aload_n 0, 1) := by decide +kernel
theorem d_Md_licences_14 : decode b_Md_licences 14 = .ok (.getfield 13, 3) := by decide +kernel
theorem d_Md_licences_17 : decode b_Md_licences 17 = .ok (.istore_n 2, 1) := by decide +kernel
theorem d_Md_licences_18 : decode b_Md_licences 18 = .ok (.aload_n 0, 1) := by decide +kernel
theorem d_Md_licences_19 : decode b_Md_licences 19 = .ok (.iload_n 1, 1) := by decide +kernel
theorem d_Md_licences_20 : decode b_Md_licences 20 = .ok (.putfield 13, 3) := by decide +kernel
theorem d_Md_licences_23 : decode b_Md_licences 23 = .ok (.iload_n 2, 1) := by decide +kernel
theorem d_Md_licences_24 : decode b_Md_licences 24 = .ok (.ireturn, 1) := by decide +kernel
theorem d_Md_half_0 : decode b_Md_half 0 = .ok (.iload_n 1, 1) := by decide +kernel
theorem d_Md_half_1 : decode b_Md_half 1 = .ok (.iconst 1, 1) := by decide +kernel
theorem d_Md_half_2 : decode b_Md_half 2 = .ok (.sipush (1000), 3) := by decide +kernel
theorem d_Md_half_5 : decode b_Md_half 5 = .ok (.invokestatic 120, 3) := by decide +kernel
theorem d_Md_half_8 : decode b_Md_half 8 = .ok (.ifCond .ne (6), 3) := by decide +kernel
theorem d_Md_half_11 : decode b_Md_half 11 = .ok (.bipush (-3), 2) := by decide +kernel
theorem d_Md_half_13 : decode b_Md_half 13 = .ok (.ireturn, 1) := by decide +kernel
theorem d_Md_half_14 : decode b_Md_half 14 = .ok (.aload_n 0, 1) := by decide +kernel
theorem d_Md_half_15 : decode b_Md_half 15 = .ok (.getfield 7, 3) := by decide +kernel
theorem d_Md_half_18 : decode b_Md_half 18 = .ok (.istore_n 2, 1) := by decide +kernel
theorem d_Md_half_19 : decode b_Md_half 19 = .ok (.aload_n 0, 1) := by decide +kernel
theorem d_Md_half_20 : decode b_Md_half 20 = .ok (.iload_n 1, 1) := by decide +kernel
theorem d_Md_half_21 : decode b_Md_half 21 = .ok (.putfield 7, 3) := by decide +kernel
theorem d_Md_half_24 : decode b_Md_half 24 = .ok (.iload_n 2, 1) := by decide +kernel
theorem d_Md_half_25 : decode b_Md_half 25 = .ok (.ireturn, 1) := by decide +kernel
theorem d_Md_account_0 : decode b_Md_account 0 = .ok (.iload_n 1, 1) := by decide +kernel
theorem d_Md_account_1 : decode b_Md_account 1 = .ok (.iconst 1, 1) := by decide +kernel
theorem d_Md_account_2 : decode b_Md_account 2 = .ok (.bipush (100), 2) := by decide +kernel
theorem d_Md_account_4 : decode b_Md_account 4 = .ok (.invokestatic 120, 3) := by decide +kernel
theorem d_Md_account_7 : decode b_Md_account 7 = .ok (.ifCond .ne (6), 3) := by decide +kernel
theorem d_Md_account_10 : decode b_Md_account 10 = .ok (.bipush (-3), 2) := by decide +kernel
theorem d_Md_account_12 : decode b_Md_account 12 = .ok (.ireturn, 1) := by decide +kernel
theorem d_Md_account_13 : decode b_Md_account 13 = .ok (.aload_n 0, 1) := by decide +kernel
theorem d_Md_account_14 : decode b_Md_account 14 = .ok (.getfield 135, 3) := by decide +kernel
theorem d_Md_account_17 : decode b_Md_account 17 = .ok (.bipush (6), 2) := by decide +kernel
theorem d_Md_account_19 : decode b_Md_account 19 = .ok (.if_icmp .ne (6), 3) := by decide +kernel
theorem d_Md_account_22 : decode b_Md_account 22 = .ok (.bipush (-5), 2) := by decide +kernel
theorem d_Md_account_24 : decode b_Md_account 24 = .ok (.ireturn, 1) := by decide +kernel
theorem d_Md_account_25 : decode b_Md_account 25 = .ok (.aload_n 0, 1) := by decide +kernel
theorem d_Md_account_26 : decode b_Md_account 26 = .ok (.getfield 24, 3) := by decide +kernel
theorem d_Md_account_29 : decode b_Md_account 29 = .ok (.aload_n 0, 1) := by decide +kernel
theorem d_Md_account_30 : decode b_Md_account 30 = .ok (.getfield 135, 3) := by decide +kernel
theorem d_Md_account_33 : decode b_Md_account 33 = .ok (.iload_n 1, 1) := by decide +kernel
theorem d_Md_account_34 : decode b_Md_account 34 = .ok (.iastore, 1) := by decide +kernel
theorem d_Md_account_35 : decode b_Md_account 35 = .ok (.aload_n 0, 1) := by decide +kernel
theorem d_Md_account_36 : decode b_Md_account 36 = .ok (.dup, 1) := by decide +kernel
theorem d_Md_account_37 : decode b_Md_account 37 = .ok (.getfield 135, 3) := by decide +kernel
theorem d_Md_account_40 : decode b_Md_account 40 = .ok (.iconst 1, 1) := by decide +kernel
theorem d_Md_account_41 : decode b_Md_account 41 = .ok (.iadd, 1) := by decide +kernel
theorem d_Md_account_42 : decode b_Md_account 42 = .ok (.putfield 135, 3) := by decide +kernel
theorem d_Md_account_45 : decode b_Md_account 45 = .ok (.aload_n 0, 1) := by decide +kernel
theorem d_Md_account_46 : decode b_Md_account 46 = .ok (.getfield 135, 3) := by decide +kernel
theorem d_Md_account_49 : decode b_Md_account 49 = .ok (.iconst 1, 1) := by decide +kernel
theorem d_Md_account_50 : decode b_Md_account 50 = .ok (.isub, 1) := by decide +kernel
theorem d_Md_account_51 : decode b_Md_account 51 = .ok (.ireturn, 1) := by decide +kernel
theorem d_Md_job_0 : decode b_Md_job 0 = .ok (.iload_n 1, 1) := by decide +kernel
theorem d_Md_job_1 : decode b_Md_job 1 = .ok (.iconst 0, 1) := by decide +kernel
theorem d_Md_job_2 : decode b_Md_job 2 = .ok (.aload_n 0, 1) := by decide +kernel
theorem d_Md_job_3 : decode b_Md_job 3 = .ok (.getfield 135, 3) := by decide +kernel
theorem d_Md_job_6 : decode b_Md_job 6 = .ok (.iconst 1, 1) := by decide +kernel
theorem d_Md_job_7 : decode b_Md_job 7 = .ok (.isub, 1) := by decide +kernel
theorem d_Md_job_8 : decode b_Md_job 8 = .ok (.invokestatic 120, 3) := by decide +kernel
theorem d_Md_job_11 : decode b_Md_job 11 = .ok (.ifCond .ne (6), 3) := by decide +kernel
theorem d_Md_job_14 : decode b_Md_job 14 = .ok (.bipush (-2), 2) := by decide +kernel
theorem d_Md_job_16 : decode b_Md_job 16 = .ok (.ireturn, 1) := by decide +kernel
theorem d_Md_job_17 : decode b_Md_job 17 = .ok (.iload_n 2, 1) := by decide +kernel
theorem d_Md_job_18 : decode b_Md_job 18 = .ok (.iconst 1, 1) := by decide +kernel
theorem d_Md_job_19 : decode b_Md_job 19 = .ok (.bipush (64), 2) := by decide +kernel
theorem d_Md_job_21 : decode b_Md_job 21 = .ok (.invokestatic 120, 3) := by decide +kernel
theorem d_Md_job_24 : decode b_Md_job 24 = .ok (.ifCond .eq (46), 3) := by decide +kernel
theorem d_Md_job_27 : decode b_Md_job 27 = .ok (.iload_n 3, 1) := by decide +kernel
theorem d_Md_job_28 : decode b_Md_job 28 = .ok (.iconst 0, 1) := by decide +kernel
theorem d_Md_job_29 : decode b_Md_job 29 = .ok (.bipush (100), 2) := by decide +kernel
theorem d_Md_job_31 : decode b_Md_job 31 = .ok (.invokestatic 120, 3) := by decide +kernel
theorem d_Md_job_34 : decode b_Md_job 34 = .ok (.ifCond .eq (36), 3) := by decide +kernel
theorem d_Md_job_37 : decode b_Md_job 37 = .ok (.iload 4, 2) := by decide +kernel
theorem d_Md_job_39 : decode b_Md_job 39 = .ok (.iconst 1, 1) := by decide +kernel
theorem d_Md_job_40 : decode b_Md_job 40 = .ok (.bipush (50), 2) := by decide +kernel
theorem d_Md_job_42 : decode b_Md_job 42 = .ok (.invokestatic 120, 3) := by decide +kernel
theorem d_Md_job_45 : decode b_Md_job 45 = .ok (.ifCond .eq (25), 3) := by decide +kernel
theorem d_Md_job_48 : decode b_Md_job 48 = .ok (.iload 5, 2) := by decide +kernel
theorem d_Md_job_50 : decode b_Md_job 50 = .ok (.iconst 1, 1) := by decide +kernel
theorem d_Md_job_51 : decode b_Md_job 51 = .ok (.iload 4, 2) := by decide +kernel
theorem d_Md_job_53 : decode b_Md_job 53 = .ok (.invokestatic 120, 3) := by decide +kernel
theorem d_Md_job_56 : decode b_Md_job 56 = .ok (.ifCond .eq (14), 3) := by decide +kernel
theorem d_Md_job_59 : decode b_Md_job 59 = .ok (.iload 6, 2) := by decide +kernel
theorem d_Md_job_61 : decode b_Md_job 61 = .ok (.iconst 0, 1) := by decide +kernel
theorem d_Md_job_62 : decode b_Md_job 62 = .ok (.bipush (50), 2) := by decide +kernel
theorem d_Md_job_64 : decode b_Md_job 64 = .ok (.invokestatic 120, 3) := by decide +kernel
theorem d_Md_job_67 : decode b_Md_job 67 = .ok (.ifCond .ne (6), 3) := by decide +kernel
theorem d_Md_job_70 : decode b_Md_job 70 = .ok (.bipush (-3), 2) := by decide +kernel
theorem d_Md_job_72 : decode b_Md_job 72 = .ok (.ireturn, 1) := by decide +kernel
theorem d_Md_job_73 : decode b_Md_job 73 = .ok (.aload_n 0, 1) := by decide +kernel
theorem d_Md_job_74 : decode b_Md_job 74 = .ok (.getfield 124, 3) := by decide +kernel
theorem d_Md_job_77 : decode b_Md_job 77 = .ok (.bipush (30), 2) := by decide +kernel
theorem d_Md_job_79 : decode b_Md_job 79 = .ok (.if_icmp .ne (6), 3) := by decide +kernel
theorem d_Md_job_82 : decode b_Md_job 82 = .ok (.bipush (-5), 2) := by decide +kernel
theorem d_Md_job_84 : decode b_Md_job 84 = .ok (.ireturn, 1) := by decide +kernel
theorem d_Md_job_85 : decode b_Md_job 85 = .ok (.aload_n 0, 1) := by decide +kernel
theorem d_Md_job_86 : decode b_Md_job 86 = .ok (.getfield 30, 3) := by decide +kernel
theorem d_Md_job_89 : decode b_Md_job 89 = .ok (.aload_n 0, 1) := by decide +kernel
theorem d_Md_job_90 : decode b_Md_job 90 = .ok (.getfield 124, 3) := by decide +kernel
theorem d_Md_job_93 : decode b_Md_job 93 = .ok (.iload_n 1, 1) := by decide +kernel
theorem d_Md_job_94 : decode b_Md_job 94 = .ok (.iastore, 1) := by decide +kernel
theorem d_Md_job_95 : decode b_Md_job 95 = .ok (.aload_n 0, 1) := by decide +kernel
theorem d_Md_job_96 : decode b_Md_job 96 = .ok (.getfield 33, 3) := by decide +kernel
theorem d_Md_job_99 : decode b_Md_job 99 = .ok (.aload_n 0, 1) := by decide +kernel
theorem d_Md_job_100 : decode b_Md_job 100 = .ok (.getfield 124, 3) := by decide +kernel
theorem d_Md_job_103 : decode b_Md_job 103 = .ok (.iload_n 2, 1) := by decide +kernel
theorem d_Md_job_104 : decode b_Md_job 104 = .ok (.iastore, 1) := by decide +kernel
theorem d_Md_job_105 : decode b_Md_job 105 = .ok (.aload_n 0, 1) := by decide +kernel
theorem d_Md_job_106 : decode b_Md_job 106 = .ok (.getfield 36, 3) := by decide +kernel
theorem d_Md_job_109 : decode b_Md_job 109 = .ok (.aload_n 0, 1) := by decide +kernel
theorem d_Md_job_110 : decode b_Md_job 110 = .ok (.getfield 124, 3) := by decide +kernel
theorem d_Md_job_113 : decode b_Md_job 113 = .ok (.iload_n 3, 1) := by decide +kernel
theorem d_Md_job_114 : decode b_Md_job 114 = .ok (.iastore, 1) := by decide +kernel
theorem d_Md_job_115 : decode b_Md_job 115 = .ok (.aload_n 0, 1) := by decide +kernel
theorem d_Md_job_116 : decode b_Md_job 116 = .ok (.getfield 39, 3) := by decide +kernel
theorem d_Md_job_119 : decode b_Md_job 119 = .ok (.aload_n 0, 1) := by decide +kernel
theorem d_Md_job_120 : decode b_Md_job 120 = .ok (.getfield 124, 3) := by decide +kernel
theorem d_Md_job_123 : decode b_Md_job 123 = .ok (.iload 4, 2) := by decide +kernel
theorem d_Md_job_125 : decode b_Md_job 125 = .ok (.iastore, 1) := by decide +kernel
theorem d_Md_job_126 : decode b_Md_job 126 = .ok (.aload_n 0, 1) := by decide +kernel
theorem d_Md_job_127 : decode b_Md_job 127 = .ok (.getfield 42, 3) := by decide +kernel
theorem d_Md_job_130 : decode b_Md_job 130 = .ok (.aload_n 0, 1) := by decide +kernel
theorem d_Md_job_131 : decode b_Md_job 131 = .ok (.getfield 124, 3) := by decide +kernel
theorem d_Md_job_134 : decode b_Md_job 134 = .ok (.iload 5, 2) := by decide +kernel
theorem d_Md_job_136 : decode b_Md_job 136 = .ok (.iastore, 1) := by decide +kernel
theorem d_Md_job_137 : decode b_Md_job 137 = .ok (.aload_n 0, 1) := by decide +kernel
theorem d_Md_job_138 : decode b_Md_job 138 = .ok (.getfield 45, 3) := by decide +kernel
theorem d_Md_job_141 : decode b_Md_job 141 = .ok (.aload_n 0, 1) := by decide +kernel
theorem d_Md_job_142 : decode b_Md_job 142 = .ok (.getfield 124, 3) := by decide +kernel
theorem d_Md_job_145 : decode b_Md_job 145 = .ok (.iload 6, 2) := by decide +kernel
theorem d_Md_job_147 : decode b_Md_job 147 = .ok (.iastore, 1) := by decide +kernel
theorem d_Md_job_148 : decode b_Md_job 148 = .ok (.aload_n 0, 1) := by decide +kernel
theorem d_Md_job_149 : decode b_Md_job 149 = .ok (.getfield 48, 3) := by decide +kernel
theorem d_Md_job_152 : decode b_Md_job 152 = .ok (.aload_n 0, 1) := by decide +kernel
theorem d_Md_job_153 : decode b_Md_job 153 = .ok (.getfield 124, 3) := by decide +kernel
theorem d_Md_job_156 : decode b_Md_job 156 = .ok (.iconst (-1), 1) := by decide +kernel
theorem d_Md_job_157 : decode b_Md_job 157 = .ok (.iastore, 1) := by decide +kernel
theorem d_Md_job_158 : decode b_Md_job 158 = .ok (.aload_n 0, 1) := by decide +kernel
theorem d_Md_job_159 : decode b_Md_job 159 = .ok (.getfield 54, 3) := by decide +kernel
theorem d_Md_job_162 : decode b_Md_job 162 = .ok (.aload_n 0, 1) := by decide +kernel
theorem d_Md_job_163 : decode b_Md_job 163 = .ok (.getfield 124, 3) := by decide +kernel
theorem d_Md_job_166 : decode b_Md_job 166 = .ok (.iconst (-1), 1) := by decide +kernel
theorem d_Md_job_167 : decode b_Md_job 167 = .ok (.iastore, 1) := by decide +kernel
theorem d_Md_job_168 : decode b_Md_job 168 = .ok (.aload_n 0, 1) := by decide +kernel
theorem d_Md_job_169 : decode b_Md_job 169 = .ok (.getfield 57, 3) := by decide +kernel
theorem d_Md_job_172 : decode b_Md_job 172 = .ok (.aload_n 0, 1) := by decide +kernel
theorem d_Md_job_173 : decode b_Md_job 173 = .ok (.getfield 124, 3) := by decide +kernel
theorem d_Md_job_176 : decode b_Md_job 176 = .ok (.iconst (-1), 1) := by decide +kernel
theorem d_Md_job_177 : decode b_Md_job 177 = .ok (.iastore, 1) := by decide +kernel
theorem d_Md_job_178 : decode b_Md_job 178 = .ok (.aload_n 0, 1) := by decide +kernel
theorem d_Md_job_179 : decode b_Md_job 179 = .ok (.dup, 1) := by decide +kernel
theorem d_Md_job_180 : decode b_Md_job 180 = .ok (.getfield 124, 3) := by decide +kernel
theorem d_Md_job_183 : decode b_Md_job 183 = .ok (.iconst 1, 1) := by decide +kernel
theorem d_Md_job_184 : decode b_Md_job 184 = .ok (.iadd, 1) := by decide +kernel
theorem d_Md_job_185 : decode b_Md_job 185 = .ok (.putfield 124, 3) := by decide +kernel
theorem d_Md_job_188 : decode b_Md_job 188 = .ok (.aload_n 0, 1) := by decide +kernel
theorem d_Md_job_189 : decode b_Md_job 189 = .ok (.getfield 124, 3) := by decide +kernel
theorem d_Md_job_192 : decode b_Md_job 192 = .ok (.iconst 1, 1) := by decide +kernel
theorem d_Md_job_193 : decode b_Md_job 193 = .ok (.isub, 1) := by decide +kernel
theorem d_Md_job_194 : decode b_Md_job 194 = .ok (.ireturn, 1) := by decide +kernel
theorem d_Md_behind_0 : decode b_Md_behind 0 = .ok (.aload_n 0, 1) := by decide +kernel
theorem d_Md_behind_1 : decode b_Md_behind 1 = .ok (.iload_n 1, 1) := by decide +kernel
theorem d_Md_behind_2 : decode b_Md_behind 2 = .ok (.invokevirtual 138, 3) := by decide +kernel
theorem d_Md_behind_5 : decode b_Md_behind 5 = .ok (.ifCond .eq (16), 3) := by decide +kernel
theorem d_Md_behind_8 : decode b_Md_behind 8 = .ok (.iload_n 2, 1) := by decide +kernel
theorem d_Md_behind_9 : decode b_Md_behind 9 = .ok (.iconst (-1), 1) := by decide +kernel
theorem d_Md_behind_10 : decode b_Md_behind 10 = .ok (.if_icmp .eq (14), 3) := by decide +kernel
theorem d_Md_behind_13 : decode b_Md_behind 13 = .ok (.aload_n 0, 1) := by decide +kernel
theorem d_Md_behind_14 : decode b_Md_behind 14 = .ok (.iload_n 2, 1) := by decide +kernel
theorem d_Md_behind_15 : decode b_Md_behind 15 = .ok (.invokevirtual 138, 3) := by decide +kernel
theorem d_Md_behind_18 : decode b_Md_behind 18 = .ok (.ifCond .ne (6), 3) := by decide +kernel
theorem d_Md_behind_21 : decode b_Md_behind 21 = .ok (.bipush (-2), 2) := by decide +kernel
theorem d_Md_behind_23 : decode b_Md_behind 23 = .ok (.ireturn, 1) := by decide +kernel
theorem d_Md_behind_24 : decode b_Md_behind 24 = .ok (.iload_n 2, 1) := by decide +kernel
theorem d_Md_behind_25 : decode b_Md_behind 25 = .ok (.iload_n 1, 1) := by decide +kernel
theorem d_Md_behind_26 : decode b_Md_behind 26 = .ok (.if_icmp .lt (6), 3) := by decide +kernel
theorem d_Md_behind_29 : decode b_Md_behind 29 = .ok (.bipush (-3), 2) := by decide +kernel
theorem d_Md_behind_31 : decode b_Md_behind 31 = .ok (.ireturn, 1) := by decide +kernel
theorem d_Md_behind_32 : decode b_Md_behind 32 = .ok (.aload_n 0, 1) := by decide +kernel
theorem d_Md_behind_33 : decode b_Md_behind 33 = .ok (.getfield 51, 3) := by decide +kernel
theorem d_Md_behind_36 : decode b_Md_behind 36 = .ok (.iload_n 1, 1) := by decide +kernel
theorem d_Md_behind_37 : decode b_Md_behind 37 = .ok (.iaload, 1) := by decide +kernel
theorem d_Md_behind_38 : decode b_Md_behind 38 = .ok (.ifCond .eq (6), 3) := by decide +kernel
theorem d_Md_behind_41 : decode b_Md_behind 41 = .ok (.bipush (-4), 2) := by decide +kernel
theorem d_Md_behind_43 : decode b_Md_behind 43 = .ok (.ireturn, 1) := by decide +kernel
theorem d_Md_behind_44 : decode b_Md_behind 44 = .ok (.aload_n 0, 1) := by decide +kernel
theorem d_Md_behind_45 : decode b_Md_behind 45 = .ok (.getfield 48, 3) := by decide +kernel
theorem d_Md_behind_48 : decode b_Md_behind 48 = .ok (.iload_n 1, 1) := by decide +kernel
theorem d_Md_behind_49 : decode b_Md_behind 49 = .ok (.iload_n 2, 1) := by decide +kernel
theorem d_Md_behind_50 : decode b_Md_behind 50 = .ok (.iastore, 1) := by decide +kernel
theorem d_Md_behind_51 : decode b_Md_behind 51 = .ok (.iconst 1, 1) := by decide +kernel
theorem d_Md_behind_52 : decode b_Md_behind 52 = .ok (.ireturn, 1) := by decide +kernel
theorem d_Md_cancel_0 : decode b_Md_cancel 0 = .ok (.aload_n 0, 1) := by decide +kernel
theorem d_Md_cancel_1 : decode b_Md_cancel 1 = .ok (.iload_n 1, 1) := by decide +kernel
theorem d_Md_cancel_2 : decode b_Md_cancel 2 = .ok (.invokevirtual 138, 3) := by decide +kernel
theorem d_Md_cancel_5 : decode b_Md_cancel 5 = .ok (.ifCond .ne (6), 3) := by decide +kernel
theorem d_Md_cancel_8 : decode b_Md_cancel 8 = .ok (.bipush (-2), 2) := by decide +kernel
theorem d_Md_cancel_10 : decode b_Md_cancel 10 = .ok (.ireturn, 1) := by decide +kernel
theorem d_Md_cancel_11 : decode b_Md_cancel 11 = .ok (.aload_n 0, 1) := by decide +kernel
theorem d_Md_cancel_12 : decode b_Md_cancel 12 = .ok (.getfield 51, 3) := by decide +kernel
theorem d_Md_cancel_15 : decode b_Md_cancel 15 = .ok (.iload_n 1, 1) := by decide +kernel
theorem d_Md_cancel_16 : decode b_Md_cancel 16 = .ok (.iaload, 1) := by decide +kernel
theorem d_Md_cancel_17 : decode b_Md_cancel 17 = .ok (.iconst 1, 1) := by decide +kernel
theorem d_Md_cancel_18 : decode b_Md_cancel 18 = .ok (.if_icmp .le (6), 3) := by decide +kernel
theorem d_Md_cancel_21 : decode b_Md_cancel 21 = .ok (.bipush (-4), 2) := by decide +kernel
theorem d_Md_cancel_23 : decode b_Md_cancel 23 = .ok (.ireturn, 1) := by decide +kernel
theorem d_Md_cancel_24 : decode b_Md_cancel 24 = .ok (.aload_n 0, 1) := by decide +kernel
theorem d_Md_cancel_25 : decode b_Md_cancel 25 = .ok (.getfield 51, 3) := by decide +kernel
theorem d_Md_cancel_28 : decode b_Md_cancel 28 = .ok (.iload_n 1, 1) := by decide +kernel
theorem d_Md_cancel_29 : decode b_Md_cancel 29 = .ok (.iconst 3, 1) := by decide +kernel
theorem d_Md_cancel_30 : decode b_Md_cancel 30 = .ok (.iastore, 1) := by decide +kernel
theorem d_Md_cancel_31 : decode b_Md_cancel 31 = .ok (.aload_n 0, 1) := by decide +kernel
theorem d_Md_cancel_32 : decode b_Md_cancel 32 = .ok (.iload_n 1, 1) := by decide +kernel
theorem d_Md_cancel_33 : decode b_Md_cancel 33 = .ok (.invokevirtual 131, 3) := by decide +kernel
theorem d_Md_cancel_36 : decode b_Md_cancel 36 = .ok (.iconst 1, 1) := by decide +kernel
theorem d_Md_cancel_37 : decode b_Md_cancel 37 = .ok (.ireturn, 1) := by decide +kernel
theorem d_Md_room_0 : decode b_Md_room 0 = .ok (.iconst 0, 1) := by decide +kernel
theorem d_Md_room_1 : decode b_Md_room 1 = .ok (.istore_n 1, 1) := by decide +kernel
theorem d_Md_room_2 : decode b_Md_room 2 = .ok (.iconst 0, 1) := by decide +kernel
theorem d_Md_room_3 : decode b_Md_room 3 = .ok (.istore_n 2, 1) := by decide +kernel
theorem d_Md_room_4 : decode b_Md_room 4 = .ok (.iload_n 2, 1) := by decide +kernel
theorem d_Md_room_5 : decode b_Md_room 5 = .ok (.aload_n 0, 1) := by decide +kernel
theorem d_Md_room_6 : decode b_Md_room 6 = .ok (.getfield 117, 3) := by decide +kernel
theorem d_Md_room_9 : decode b_Md_room 9 = .ok (.if_icmp .ge (31), 3) := by decide +kernel
theorem d_Md_room_12 : decode b_Md_room 12 = .ok (.iload_n 1, 1) := by decide +kernel
theorem d_Md_room_13 : decode b_Md_room 13 = .ok (.aload_n 0, 1) := by decide +kernel
theorem d_Md_room_14 : decode b_Md_room 14 = .ok (.getfield 20, 3) := by decide +kernel
theorem d_Md_room_17 : decode b_Md_room 17 = .ok (.iload_n 2, 1) := by decide +kernel
theorem d_Md_room_18 : decode b_Md_room 18 = .ok (.baload, 1) := by decide +kernel
theorem d_Md_room_19 : decode b_Md_room 19 = .ok (.ifCond .eq (7), 3) := by decide +kernel
theorem d_Md_room_22 : decode b_Md_room 22 = .ok (.iconst 0, 1) := by decide +kernel
theorem d_Md_room_23 : decode b_Md_room 23 = .ok (.goto (9), 3) := by decide +kernel
theorem d_Md_room_26 : decode b_Md_room 26 = .ok (.aload_n 0, 1) := by decide +kernel
theorem d_Md_room_27 : decode b_Md_room 27 = .ok (.getfield 16, 3) := by decide +kernel
theorem d_Md_room_30 : decode b_Md_room 30 = .ok (.iload_n 2, 1) := by decide +kernel
theorem d_Md_room_31 : decode b_Md_room 31 = .ok (.iaload, 1) := by decide +kernel
theorem d_Md_room_32 : decode b_Md_room 32 = .ok (.iadd, 1) := by decide +kernel
theorem d_Md_room_33 : decode b_Md_room 33 = .ok (.istore_n 1, 1) := by decide +kernel
theorem d_Md_room_34 : decode b_Md_room 34 = .ok (.iinc 2 (1), 3) := by decide +kernel
theorem d_Md_room_37 : decode b_Md_room 37 = .ok (.goto (-33), 3) := by decide +kernel
theorem d_Md_room_40 : decode b_Md_room 40 = .ok (.iload_n 1, 1) := by decide +kernel
theorem d_Md_room_41 : decode b_Md_room 41 = .ok (.ireturn, 1) := by decide +kernel
theorem d_Md_runsAt_0 : decode b_Md_runsAt 0 = .ok (.aload_n 0, 1) := by decide +kernel
theorem d_Md_runsAt_1 : decode b_Md_runsAt 1 = .ok (.getfield 51, 3) := by decide +kernel
theorem d_Md_runsAt_4 : decode b_Md_runsAt 4 = .ok (.iload_n 1, 1) := by decide +kernel
theorem d_Md_runsAt_5 : decode b_Md_runsAt 5 = .ok (.iaload, 1) := by decide +kernel
theorem d_Md_runsAt_6 : decode b_Md_runsAt 6 = .ok (.iconst 1, 1) := by decide +kernel
theorem d_Md_runsAt_7 : decode b_Md_runsAt 7 = .ok (.if_icmp .ne (24), 3) := by decide +kernel
theorem d_Md_runsAt_10 : decode b_Md_runsAt 10 = .ok (.aload_n 0, 1) := by decide +kernel
theorem d_Md_runsAt_11 : decode b_Md_runsAt 11 = .ok (.getfield 54, 3) := by decide +kernel
theorem d_Md_runsAt_14 : decode b_Md_runsAt 14 = .ok (.iload_n 1, 1) := by decide +kernel
theorem d_Md_runsAt_15 : decode b_Md_runsAt 15 = .ok (.iaload, 1) := by decide +kernel
theorem d_Md_runsAt_16 : decode b_Md_runsAt 16 = .ok (.aload_n 0, 1) := by decide +kernel
theorem d_Md_runsAt_17 : decode b_Md_runsAt 17 = .ok (.getfield 66, 3) := by decide +kernel
theorem d_Md_runsAt_20 : decode b_Md_runsAt 20 = .ok (.iload_n 1, 1) := by decide +kernel
theorem d_Md_runsAt_21 : decode b_Md_runsAt 21 = .ok (.iaload, 1) := by decide +kernel
theorem d_Md_runsAt_22 : decode b_Md_runsAt 22 = .ok (.iadd, 1) := by decide +kernel
theorem d_Md_runsAt_23 : decode b_Md_runsAt 23 = .ok (.iload_n 2, 1) := by decide +kernel
theorem d_Md_runsAt_24 : decode b_Md_runsAt 24 = .ok (.if_icmp .le (7), 3) := by decide +kernel
theorem d_Md_runsAt_27 : decode b_Md_runsAt 27 = .ok (.iconst 1, 1) := by decide +kernel
theorem d_Md_runsAt_28 : decode b_Md_runsAt 28 = .ok (.goto (4), 3) := by decide +kernel
theorem d_Md_runsAt_31 : decode b_Md_runsAt 31 = .ok (.iconst 0, 1) := by decide +kernel
theorem d_Md_runsAt_32 : decode b_Md_runsAt 32 = .ok (.ireturn, 1) := by decide +kernel
theorem d_Md_takenNodes_0 : decode b_Md_takenNodes 0 = .ok (.iconst 0, 1) := by decide +kernel
theorem d_Md_takenNodes_1 : decode b_Md_takenNodes 1 = .ok (.istore_n 2, 1) := by decide +kernel
theorem d_Md_takenNodes_2 : decode b_Md_takenNodes 2 = .ok (.iconst 0, 1) := by decide +kernel
theorem d_Md_takenNodes_3 : decode b_Md_takenNodes 3 = .ok (.istore_n 3, 1) := by decide +kernel
theorem d_Md_takenNodes_4 : decode b_Md_takenNodes 4 = .ok (.iload_n 3, 1) := by decide +kernel
theorem d_Md_takenNodes_5 : decode b_Md_takenNodes 5 = .ok (.aload_n 0, 1) := by decide +kernel
theorem d_Md_takenNodes_6 : decode b_Md_takenNodes 6 = .ok (.getfield 124, 3) := by decide +kernel
theorem d_Md_takenNodes_9 : decode b_Md_takenNodes 9 = .ok (.if_icmp .ge (64), 3) := by decide +kernel
theorem d_Md_takenNodes_12 : decode b_Md_takenNodes 12 = .ok (.iconst 0, 1) := by decide +kernel
theorem d_Md_takenNodes_13 : decode b_Md_takenNodes 13 = .ok (.istore 4, 2) := by decide +kernel
theorem d_Md_takenNodes_15 : decode b_Md_takenNodes 15 = .ok (.iload 4, 2) := by decide +kernel
theorem d_Md_takenNodes_17 : decode b_Md_takenNodes 17 = .ok (.aload_n 0, 1) := by decide +kernel
theorem d_Md_takenNodes_18 : decode b_Md_takenNodes 18 = .ok (.getfield 117, 3) := by decide +kernel
theorem d_Md_takenNodes_21 : decode b_Md_takenNodes 21 = .ok (.if_icmp .ge (46), 3) := by decide +kernel
theorem d_Md_takenNodes_24 : decode b_Md_takenNodes 24 = .ok (.aload_n 0, 1) := by decide +kernel
theorem d_Md_takenNodes_25 : decode b_Md_takenNodes 25 = .ok (.iload_n 3, 1) := by decide +kernel
theorem d_Md_takenNodes_26 : decode b_Md_takenNodes 26 = .ok (.iload_n 1, 1) := by decide +kernel
theorem d_Md_takenNodes_27 : decode b_Md_takenNodes 27 = .ok (.invokevirtual 141, 3) := by decide +kernel
theorem d_Md_takenNodes_30 : decode b_Md_takenNodes 30 = .ok (.ifCond .eq (37), 3) := by decide +kernel
theorem d_Md_takenNodes_33 : decode b_Md_takenNodes 33 = .ok (.iload_n 2, 1) := by decide +kernel
theorem d_Md_takenNodes_34 : decode b_Md_takenNodes 34 = .ok (.aload_n 0, 1) := by decide +kernel
theorem d_Md_takenNodes_35 : decode b_Md_takenNodes 35 = .ok (.getfield 20, 3) := by decide +kernel
theorem d_Md_takenNodes_38 : decode b_Md_takenNodes 38 = .ok (.iload 4, 2) := by decide +kernel
theorem d_Md_takenNodes_40 : decode b_Md_takenNodes 40 = .ok (.baload, 1) := by decide +kernel
theorem d_Md_takenNodes_41 : decode b_Md_takenNodes 41 = .ok (.ifCond .eq (7), 3) := by decide +kernel
theorem d_Md_takenNodes_44 : decode b_Md_takenNodes 44 = .ok (.iconst 0, 1) := by decide +kernel
theorem d_Md_takenNodes_45 : decode b_Md_takenNodes 45 = .ok (.goto (14), 3) := by decide +kernel
theorem d_Md_takenNodes_48 : decode b_Md_takenNodes 48 = .ok (.aload_n 0, 1) := by decide +kernel
theorem d_Md_takenNodes_49 : decode b_Md_takenNodes 49 = .ok (.getfield 69, 3) := by decide +kernel
theorem d_Md_takenNodes_52 : decode b_Md_takenNodes 52 = .ok (.iconst 4, 1) := by decide +kernel
theorem d_Md_takenNodes_53 : decode b_Md_takenNodes 53 = .ok (.iload_n 3, 1) := by decide +kernel
theorem d_Md_takenNodes_54 : decode b_Md_takenNodes 54 = .ok (.imul, 1) := by decide +kernel
theorem d_Md_takenNodes_55 : decode b_Md_takenNodes 55 = .ok (.iload 4, 2) := by decide +kernel
theorem d_Md_takenNodes_57 : decode b_Md_takenNodes 57 = .ok (.iadd, 1) := by decide +kernel
theorem d_Md_takenNodes_58 : decode b_Md_takenNodes 58 = .ok (.iaload, 1) := by decide +kernel
theorem d_Md_takenNodes_59 : decode b_Md_takenNodes 59 = .ok (.iadd, 1) := by decide +kernel
theorem d_Md_takenNodes_60 : decode b_Md_takenNodes 60 = .ok (.istore_n 2, 1) := by decide +kernel
theorem d_Md_takenNodes_61 : decode b_Md_takenNodes 61 = .ok (.iinc 4 (1), 3) := by decide +kernel
theorem d_Md_takenNodes_64 : decode b_Md_takenNodes 64 = .ok (.goto (-49), 3) := by decide +kernel
theorem d_Md_takenNodes_67 : decode b_Md_takenNodes 67 = .ok (.iinc 3 (1), 3) := by decide +kernel
theorem d_Md_takenNodes_70 : decode b_Md_takenNodes 70 = .ok (.goto (-66), 3) := by decide +kernel
theorem d_Md_takenNodes_73 : decode b_Md_takenNodes 73 = .ok (.iconst 0, 1) := by decide +kernel
theorem d_Md_takenNodes_74 : decode b_Md_takenNodes 74 = .ok (.istore_n 3, 1) := by decide +kernel
theorem d_Md_takenNodes_75 : decode b_Md_takenNodes 75 = .ok (.iload_n 3, 1) := by decide +kernel
theorem d_Md_takenNodes_76 : decode b_Md_takenNodes 76 = .ok (.aload_n 0, 1) := by decide +kernel
theorem d_Md_takenNodes_77 : decode b_Md_takenNodes 77 = .ok (.getfield 145, 3) := by decide +kernel
theorem d_Md_takenNodes_80 : decode b_Md_takenNodes 80 = .ok (.if_icmp .ge (42), 3) := by decide +kernel
theorem d_Md_takenNodes_83 : decode b_Md_takenNodes 83 = .ok (.iload_n 2, 1) := by decide +kernel
theorem d_Md_takenNodes_84 : decode b_Md_takenNodes 84 = .ok (.iload_n 1, 1) := by decide +kernel
theorem d_Md_takenNodes_85 : decode b_Md_takenNodes 85 = .ok (.aload_n 0, 1) := by decide +kernel
theorem d_Md_takenNodes_86 : decode b_Md_takenNodes 86 = .ok (.getfield 75, 3) := by decide +kernel
theorem d_Md_takenNodes_89 : decode b_Md_takenNodes 89 = .ok (.iload_n 3, 1) := by decide +kernel
theorem d_Md_takenNodes_90 : decode b_Md_takenNodes 90 = .ok (.iaload, 1) := by decide +kernel
theorem d_Md_takenNodes_91 : decode b_Md_takenNodes 91 = .ok (.if_icmp .lt (22), 3) := by decide +kernel
theorem d_Md_takenNodes_94 : decode b_Md_takenNodes 94 = .ok (.iload_n 1, 1) := by decide +kernel
theorem d_Md_takenNodes_95 : decode b_Md_takenNodes 95 = .ok (.aload_n 0, 1) := by decide +kernel
theorem d_Md_takenNodes_96 : decode b_Md_takenNodes 96 = .ok (.getfield 78, 3) := by decide +kernel
theorem d_Md_takenNodes_99 : decode b_Md_takenNodes 99 = .ok (.iload_n 3, 1) := by decide +kernel
theorem d_Md_takenNodes_100 : decode b_Md_takenNodes 100 = .ok (.iaload, 1) := by decide +kernel
theorem d_Md_takenNodes_101 : decode b_Md_takenNodes 101 = .ok (.if_icmp .ge (12), 3) := by decide +kernel
theorem d_Md_takenNodes_104 : decode b_Md_takenNodes 104 = .ok (.aload_n 0, 1) := by decide +kernel
theorem d_Md_takenNodes_105 : decode b_Md_takenNodes 105 = .ok (.getfield 72, 3) := by decide +kernel
theorem d_Md_takenNodes_108 : decode b_Md_takenNodes 108 = .ok (.iload_n 3, 1) := by decide +kernel
theorem d_Md_takenNodes_109 : decode b_Md_takenNodes 109 = .ok (.iaload, 1) := by decide +kernel
theorem d_Md_takenNodes_110 : decode b_Md_takenNodes 110 = .ok (.goto (4), 3) := by decide +kernel
theorem d_Md_takenNodes_113 : decode b_Md_takenNodes 113 = .ok (.iconst 0, 1) := by decide +kernel
theorem d_Md_takenNodes_114 : decode b_Md_takenNodes 114 = .ok (.iadd, 1) := by decide +kernel
theorem d_Md_takenNodes_115 : decode b_Md_takenNodes 115 = .ok (.istore_n 2, 1) := by decide +kernel
theorem d_Md_takenNodes_116 : decode b_Md_takenNodes 116 = .ok (.iinc 3 (1), 3) := by decide +kernel
theorem d_Md_takenNodes_119 : decode b_Md_takenNodes 119 = .ok (.goto (-44), 3) := by decide +kernel
theorem d_Md_takenNodes_122 : decode b_Md_takenNodes 122 = .ok (.iload_n 2, 1) := by decide +kernel
theorem d_Md_takenNodes_123 : decode b_Md_takenNodes 123 = .ok (.ireturn, 1) := by decide +kernel
theorem d_Md_takenLicences_0 : decode b_Md_takenLicences 0 = .ok (.iconst 0, 1) := by decide +kernel
theorem d_Md_takenLicences_1 : decode b_Md_takenLicences 1 = .ok (.istore_n 2, 1) := by decide +kernel
theorem d_Md_takenLicences_2 : decode b_Md_takenLicences 2 = .ok (.iconst 0, 1) := by decide +kernel
theorem d_Md_takenLicences_3 : decode b_Md_takenLicences 3 = .ok (.istore_n 3, 1) := by decide +kernel
theorem d_Md_takenLicences_4 : decode b_Md_takenLicences 4 = .ok (.iload_n 3, 1) := by decide +kernel
theorem d_Md_takenLicences_5 : decode b_Md_takenLicences 5 = .ok (.aload_n 0, 1) := by decide +kernel
theorem d_Md_takenLicences_6 : decode b_Md_takenLicences 6 = .ok (.getfield 124, 3) := by decide +kernel
theorem d_Md_takenLicences_9 : decode b_Md_takenLicences 9 = .ok (.if_icmp .ge (31), 3) := by decide +kernel
theorem d_Md_takenLicences_12 : decode b_Md_takenLicences 12 = .ok (.iload_n 2, 1) := by decide +kernel
theorem d_Md_takenLicences_13 : decode b_Md_takenLicences 13 = .ok (.aload_n 0, 1) := by decide +kernel
theorem d_Md_takenLicences_14 : decode b_Md_takenLicences 14 = .ok (.iload_n 3, 1) := by decide +kernel
theorem d_Md_takenLicences_15 : decode b_Md_takenLicences 15 = .ok (.iload_n 1, 1) := by decide +kernel
theorem d_Md_takenLicences_16 : decode b_Md_takenLicences 16 = .ok (.invokevirtual 141, 3) := by decide +kernel
theorem d_Md_takenLicences_19 : decode b_Md_takenLicences 19 = .ok (.ifCond .eq (12), 3) := by decide +kernel
theorem d_Md_takenLicences_22 : decode b_Md_takenLicences 22 = .ok (.aload_n 0, 1) := by decide +kernel
theorem d_Md_takenLicences_23 : decode b_Md_takenLicences 23 = .ok (.getfield 36, 3) := by decide +kernel
theorem d_Md_takenLicences_26 : decode b_Md_takenLicences 26 = .ok (.iload_n 3, 1) := by decide +kernel
theorem d_Md_takenLicences_27 : decode b_Md_takenLicences 27 = .ok (.iaload, 1) := by decide +kernel
theorem d_Md_takenLicences_28 : decode b_Md_takenLicences 28 = .ok (.goto (4), 3) := by decide +kernel
theorem d_Md_takenLicences_31 : decode b_Md_takenLicences 31 = .ok (.iconst 0, 1) := by decide +kernel
theorem d_Md_takenLicences_32 : decode b_Md_takenLicences 32 = .ok (.iadd, 1) := by decide +kernel
theorem d_Md_takenLicences_33 : decode b_Md_takenLicences 33 = .ok (.istore_n 2, 1) := by decide +kernel
theorem d_Md_takenLicences_34 : decode b_Md_takenLicences 34 = .ok (.iinc 3 (1), 3) := by decide +kernel
theorem d_Md_takenLicences_37 : decode b_Md_takenLicences 37 = .ok (.goto (-33), 3) := by decide +kernel
theorem d_Md_takenLicences_40 : decode b_Md_takenLicences 40 = .ok (.iload_n 2, 1) := by decide +kernel
theorem d_Md_takenLicences_41 : decode b_Md_takenLicences 41 = .ok (.ireturn, 1) := by decide +kernel
theorem d_Md_book_0 : decode b_Md_book 0 = .ok (.iload_n 1, 1) := by decide +kernel
theorem d_Md_book_1 : decode b_Md_book 1 = .ok (.iconst 1, 1) := by decide +kernel
theorem d_Md_book_2 : decode b_Md_book 2 = .ok (.bipush (64), 2) := by decide +kernel
theorem d_Md_book_4 : decode b_Md_book 4 = .ok (.invokestatic 120, 3) := by decide +kernel
theorem d_Md_book_7 : decode b_Md_book 7 = .ok (.ifCond .eq (23), 3) := by decide +kernel
theorem d_Md_book_10 : decode b_Md_book 10 = .ok (.iload_n 2, 1) := by decide +kernel
theorem d_Md_book_11 : decode b_Md_book 11 = .ok (.aload_n 0, 1) := by decide +kernel
theorem d_Md_book_12 : decode b_Md_book 12 = .ok (.getfield 148, 3) := by decide +kernel
theorem d_Md_book_15 : decode b_Md_book 15 = .ok (.if_icmp .lt (15), 3) := by decide +kernel
theorem d_Md_book_18 : decode b_Md_book 18 = .ok (.iload_n 3, 1) := by decide +kernel
theorem d_Md_book_19 : decode b_Md_book 19 = .ok (.iload_n 2, 1) := by decide +kernel
theorem d_Md_book_20 : decode b_Md_book 20 = .ok (.if_icmp .le (10), 3) := by decide +kernel
theorem d_Md_book_23 : decode b_Md_book 23 = .ok (.iload_n 3, 1) := by decide +kernel
theorem d_Md_book_24 : decode b_Md_book 24 = .ok (.sipush (3000), 3) := by decide +kernel
theorem d_Md_book_27 : decode b_Md_book 27 = .ok (.if_icmp .le (6), 3) := by decide +kernel
theorem d_Md_book_30 : decode b_Md_book 30 = .ok (.bipush (-3), 2) := by decide +kernel
theorem d_Md_book_32 : decode b_Md_book 32 = .ok (.ireturn, 1) := by decide +kernel
theorem d_Md_book_33 : decode b_Md_book 33 = .ok (.aload_n 0, 1) := by decide +kernel
theorem d_Md_book_34 : decode b_Md_book 34 = .ok (.invokevirtual 151, 3) := by decide +kernel
theorem d_Md_book_37 : decode b_Md_book 37 = .ok (.istore 4, 2) := by decide +kernel
theorem d_Md_book_39 : decode b_Md_book 39 = .ok (.iload_n 2, 1) := by decide +kernel
theorem d_Md_book_40 : decode b_Md_book 40 = .ok (.istore 5, 2) := by decide +kernel
theorem d_Md_book_42 : decode b_Md_book 42 = .ok (.iload 5, 2) := by decide +kernel
theorem d_Md_book_44 : decode b_Md_book 44 = .ok (.iload_n 3, 1) := by decide +kernel
theorem d_Md_book_45 : decode b_Md_book 45 = .ok (.if_icmp .ge (25), 3) := by decide +kernel
theorem d_Md_book_48 : decode b_Md_book 48 = .ok (.aload_n 0, 1) := by decide +kernel
theorem d_Md_book_49 : decode b_Md_book 49 = .ok (.iload 5, 2) := by decide +kernel
theorem d_Md_book_51 : decode b_Md_book 51 = .ok (.invokevirtual 155, 3) := by decide +kernel
theorem d_Md_book_54 : decode b_Md_book 54 = .ok (.iload_n 1, 1) := by decide +kernel
theorem d_Md_book_55 : decode b_Md_book 55 = .ok (.iadd, 1) := by decide +kernel
theorem d_Md_book_56 : decode b_Md_book 56 = .ok (.iload 4, 2) := by decide +kernel
theorem d_Md_book_58 : decode b_Md_book 58 = .ok (.if_icmp .le (6), 3) := by decide +kernel
theorem d_Md_book_61 : decode b_Md_book 61 = .ok (.bipush (-4), 2) := by decide +kernel
theorem d_Md_book_63 : decode b_Md_book 63 = .ok (.ireturn, 1) := by decide +kernel
theorem d_Md_book_64 : decode b_Md_book 64 = .ok (.iinc 5 (1), 3) := by decide +kernel
theorem d_Md_book_67 : decode b_Md_book 67 = .ok (.goto (-25), 3) := by decide +kernel
theorem d_Md_book_70 : decode b_Md_book 70 = .ok (.aload_n 0, 1) := by decide +kernel
theorem d_Md_book_71 : decode b_Md_book 71 = .ok (.getfield 145, 3) := by decide +kernel
theorem d_Md_book_74 : decode b_Md_book 74 = .ok (.bipush (8), 2) := by decide +kernel
theorem d_Md_book_76 : decode b_Md_book 76 = .ok (.if_icmp .ne (6), 3) := by decide +kernel
theorem d_Md_book_79 : decode b_Md_book 79 = .ok (.bipush (-5), 2) := by decide +kernel
theorem d_Md_book_81 : decode b_Md_book 81 = .ok (.ireturn, 1) := by decide +kernel
theorem d_Md_book_82 : decode b_Md_book 82 = .ok (.aload_n 0, 1) := by decide +kernel
theorem d_Md_book_83 : decode b_Md_book 83 = .ok (.getfield 72, 3) := by decide +kernel
theorem d_Md_book_86 : decode b_Md_book 86 = .ok (.aload_n 0, 1) := by decide +kernel
theorem d_Md_book_87 : decode b_Md_book 87 = .ok (.getfield 145, 3) := by decide +kernel
theorem d_Md_book_90 : decode b_Md_book 90 = .ok (.iload_n 1, 1) := by decide +kernel
theorem d_Md_book_91 : decode b_Md_book 91 = .ok (.iastore, 1) := by decide +kernel
theorem d_Md_book_92 : decode b_Md_book 92 = .ok (.aload_n 0, 1) := by decide +kernel
theorem d_Md_book_93 : decode b_Md_book 93 = .ok (.getfield 75, 3) := by decide +kernel
theorem d_Md_book_96 : decode b_Md_book 96 = .ok (.aload_n 0, 1) := by decide +kernel
theorem d_Md_book_97 : decode b_Md_book 97 = .ok (.getfield 145, 3) := by decide +kernel
theorem d_Md_book_100 : decode b_Md_book 100 = .ok (.iload_n 2, 1) := by decide +kernel
theorem d_Md_book_101 : decode b_Md_book 101 = .ok (.iastore, 1) := by decide +kernel
theorem d_Md_book_102 : decode b_Md_book 102 = .ok (.aload_n 0, 1) := by decide +kernel
theorem d_Md_book_103 : decode b_Md_book 103 = .ok (.getfield 78, 3) := by decide +kernel
theorem d_Md_book_106 : decode b_Md_book 106 = .ok (.aload_n 0, 1) := by decide +kernel
theorem d_Md_book_107 : decode b_Md_book 107 = .ok (.getfield 145, 3) := by decide +kernel
theorem d_Md_book_110 : decode b_Md_book 110 = .ok (.iload_n 3, 1) := by decide +kernel
theorem d_Md_book_111 : decode b_Md_book 111 = .ok (.iastore, 1) := by decide +kernel
theorem d_Md_book_112 : decode b_Md_book 112 = .ok (.aload_n 0, 1) := by decide +kernel
theorem d_Md_book_113 : decode b_Md_book 113 = .ok (.dup, 1) := by decide +kernel
theorem d_Md_book_114 : decode b_Md_book 114 = .ok (.getfield 145, 3) := by decide +kernel
theorem d_Md_book_117 : decode b_Md_book 117 = .ok (.iconst 1, 1) := by decide +kernel
theorem d_Md_book_118 : decode b_Md_book 118 = .ok (.iadd, 1) := by decide +kernel
theorem d_Md_book_119 : decode b_Md_book 119 = .ok (.putfield 145, 3) := by decide +kernel
theorem d_Md_book_122 : decode b_Md_book 122 = .ok (.aload_n 0, 1) := by decide +kernel
theorem d_Md_book_123 : decode b_Md_book 123 = .ok (.getfield 145, 3) := by decide +kernel
theorem d_Md_book_126 : decode b_Md_book 126 = .ok (.iconst 1, 1) := by decide +kernel
theorem d_Md_book_127 : decode b_Md_book 127 = .ok (.isub, 1) := by decide +kernel
theorem d_Md_book_128 : decode b_Md_book 128 = .ok (.ireturn, 1) := by decide +kernel
theorem d_Md_unbook_0 : decode b_Md_unbook 0 = .ok (.iload_n 1, 1) := by decide +kernel
theorem d_Md_unbook_1 : decode b_Md_unbook 1 = .ok (.iconst 0, 1) := by decide +kernel
theorem d_Md_unbook_2 : decode b_Md_unbook 2 = .ok (.aload_n 0, 1) := by decide +kernel
theorem d_Md_unbook_3 : decode b_Md_unbook 3 = .ok (.getfield 145, 3) := by decide +kernel
theorem d_Md_unbook_6 : decode b_Md_unbook 6 = .ok (.iconst 1, 1) := by decide +kernel
theorem d_Md_unbook_7 : decode b_Md_unbook 7 = .ok (.isub, 1) := by decide +kernel
theorem d_Md_unbook_8 : decode b_Md_unbook 8 = .ok (.invokestatic 120, 3) := by decide +kernel
theorem d_Md_unbook_11 : decode b_Md_unbook 11 = .ok (.ifCond .ne (6), 3) := by decide +kernel
theorem d_Md_unbook_14 : decode b_Md_unbook 14 = .ok (.bipush (-2), 2) := by decide +kernel
theorem d_Md_unbook_16 : decode b_Md_unbook 16 = .ok (.ireturn, 1) := by decide +kernel
theorem d_Md_unbook_17 : decode b_Md_unbook 17 = .ok (.aload_n 0, 1) := by decide +kernel
theorem d_Md_unbook_18 : decode b_Md_unbook 18 = .ok (.dup, 1) := by decide +kernel
theorem d_Md_unbook_19 : decode b_Md_unbook 19 = .ok (.getfield 145, 3) := by decide +kernel
theorem d_Md_unbook_22 : decode b_Md_unbook 22 = .ok (.iconst 1, 1) := by decide +kernel
theorem d_Md_unbook_23 : decode b_Md_unbook 23 = .ok (.isub, 1) := by decide +kernel
theorem d_Md_unbook_24 : decode b_Md_unbook 24 = .ok (.putfield 145, 3) := by decide +kernel
theorem d_Md_unbook_27 : decode b_Md_unbook 27 = .ok (.iload_n 1, 1) := by decide +kernel
theorem d_Md_unbook_28 : decode b_Md_unbook 28 = .ok (.istore_n 2, 1) := by decide +kernel
theorem d_Md_unbook_29 : decode b_Md_unbook 29 = .ok (.iload_n 2, 1) := by decide +kernel
theorem d_Md_unbook_30 : decode b_Md_unbook 30 = .ok (.aload_n 0, 1) := by decide +kernel
theorem d_Md_unbook_31 : decode b_Md_unbook 31 = .ok (.getfield 145, 3) := by decide +kernel
theorem d_Md_unbook_34 : decode b_Md_unbook 34 = .ok (.if_icmp .ge (51), 3) := by decide +kernel
theorem d_Md_unbook_37 : decode b_Md_unbook 37 = .ok (.aload_n 0, 1) := by decide +kernel
theorem d_Md_unbook_38 : decode b_Md_unbook 38 = .ok (.getfield 72, 3) := by decide +kernel
theorem d_Md_unbook_41 : decode b_Md_unbook 41 = .ok (.iload_n 2, 1) := by decide +kernel
theorem d_Md_unbook_42 : decode b_Md_unbook 42 = .ok (.aload_n 0, 1) := by decide +kernel
theorem d_Md_unbook_43 : decode b_Md_unbook 43 = .ok (.getfield 72, 3) := by decide +kernel
theorem d_Md_unbook_46 : decode b_Md_unbook 46 = .ok (.iload_n 2, 1) := by decide +kernel
theorem d_Md_unbook_47 : decode b_Md_unbook 47 = .ok (.iconst 1, 1) := by decide +kernel
theorem d_Md_unbook_48 : decode b_Md_unbook 48 = .ok (.iadd, 1) := by decide +kernel
theorem d_Md_unbook_49 : decode b_Md_unbook 49 = .ok (.iaload, 1) := by decide +kernel
theorem d_Md_unbook_50 : decode b_Md_unbook 50 = .ok (.iastore, 1) := by decide +kernel
theorem d_Md_unbook_51 : decode b_Md_unbook 51 = .ok (.aload_n 0, 1) := by decide +kernel
theorem d_Md_unbook_52 : decode b_Md_unbook 52 = .ok (.getfield 75, 3) := by decide +kernel
theorem d_Md_unbook_55 : decode b_Md_unbook 55 = .ok (.iload_n 2, 1) := by decide +kernel
theorem d_Md_unbook_56 : decode b_Md_unbook 56 = .ok (.aload_n 0, 1) := by decide +kernel
theorem d_Md_unbook_57 : decode b_Md_unbook 57 = .ok (.getfield 75, 3) := by decide +kernel
theorem d_Md_unbook_60 : decode b_Md_unbook 60 = .ok (.iload_n 2, 1) := by decide +kernel
theorem d_Md_unbook_61 : decode b_Md_unbook 61 = .ok (.iconst 1, 1) := by decide +kernel
theorem d_Md_unbook_62 : decode b_Md_unbook 62 = .ok (.iadd, 1) := by decide +kernel
theorem d_Md_unbook_63 : decode b_Md_unbook 63 = .ok (.iaload, 1) := by decide +kernel
theorem d_Md_unbook_64 : decode b_Md_unbook 64 = .ok (.iastore, 1) := by decide +kernel
theorem d_Md_unbook_65 : decode b_Md_unbook 65 = .ok (.aload_n 0, 1) := by decide +kernel
theorem d_Md_unbook_66 : decode b_Md_unbook 66 = .ok (.getfield 78, 3) := by decide +kernel
theorem d_Md_unbook_69 : decode b_Md_unbook 69 = .ok (.iload_n 2, 1) := by decide +kernel
theorem d_Md_unbook_70 : decode b_Md_unbook 70 = .ok (.aload_n 0, 1) := by decide +kernel
theorem d_Md_unbook_71 : decode b_Md_unbook 71 = .ok (.getfield 78, 3) := by decide +kernel
theorem d_Md_unbook_74 : decode b_Md_unbook 74 = .ok (.iload_n 2, 1) := by decide +kernel
theorem d_Md_unbook_75 : decode b_Md_unbook 75 = .ok (.iconst 1, 1) := by decide +kernel
theorem d_Md_unbook_76 : decode b_Md_unbook 76 = .ok (.iadd, 1) := by decide +kernel
theorem d_Md_unbook_77 : decode b_Md_unbook 77 = .ok (.iaload, 1) := by decide +kernel
theorem d_Md_unbook_78 : decode b_Md_unbook 78 = .ok (.iastore, 1) := by decide +kernel
theorem d_Md_unbook_79 : decode b_Md_unbook 79 = .ok (.iinc 2 (1), 3) := by decide +kernel
theorem d_Md_unbook_82 : decode b_Md_unbook 82 = .ok (.goto (-53), 3) := by decide +kernel
theorem d_Md_unbook_85 : decode b_Md_unbook 85 = .ok (.iconst 1, 1) := by decide +kernel
theorem d_Md_unbook_86 : decode b_Md_unbook 86 = .ok (.ireturn, 1) := by decide +kernel
theorem d_Md_leftOf_0 : decode b_Md_leftOf 0 = .ok (.aload_n 0, 1) := by decide +kernel
theorem d_Md_leftOf_1 : decode b_Md_leftOf 1 = .ok (.getfield 39, 3) := by decide +kernel
theorem d_Md_leftOf_4 : decode b_Md_leftOf 4 = .ok (.iload_n 1, 1) := by decide +kernel
theorem d_Md_leftOf_5 : decode b_Md_leftOf 5 = .ok (.iaload, 1) := by decide +kernel
theorem d_Md_leftOf_6 : decode b_Md_leftOf 6 = .ok (.aload_n 0, 1) := by decide +kernel
theorem d_Md_leftOf_7 : decode b_Md_leftOf 7 = .ok (.getfield 60, 3) := by decide +kernel
theorem d_Md_leftOf_10 : decode b_Md_leftOf 10 = .ok (.iload_n 1, 1) := by decide +kernel
theorem d_Md_leftOf_11 : decode b_Md_leftOf 11 = .ok (.iaload, 1) := by decide +kernel
theorem d_Md_leftOf_12 : decode b_Md_leftOf 12 = .ok (.isub, 1) := by decide +kernel
theorem d_Md_leftOf_13 : decode b_Md_leftOf 13 = .ok (.ireturn, 1) := by decide +kernel
theorem d_Md_fits_0 : decode b_Md_fits 0 = .ok (.iconst 1, 1) := by decide +kernel
theorem d_Md_fits_1 : decode b_Md_fits 1 = .ok (.istore 4, 2) := by decide +kernel
theorem d_Md_fits_3 : decode b_Md_fits 3 = .ok (.iload_n 2, 1) := by decide +kernel
theorem d_Md_fits_4 : decode b_Md_fits 4 = .ok (.istore 5, 2) := by decide +kernel
theorem d_Md_fits_6 : decode b_Md_fits 6 = .ok (.iload 5, 2) := by decide +kernel
theorem d_Md_fits_8 : decode b_Md_fits 8 = .ok (.iload_n 2, 1) := by decide +kernel
theorem d_Md_fits_9 : decode b_Md_fits 9 = .ok (.aload_n 0, 1) := by decide +kernel
theorem d_Md_fits_10 : decode b_Md_fits 10 = .ok (.iload_n 1, 1) := by decide +kernel
theorem d_Md_fits_11 : decode b_Md_fits 11 = .ok (.invokevirtual 159, 3) := by decide +kernel
theorem d_Md_fits_14 : decode b_Md_fits 14 = .ok (.iadd, 1) := by decide +kernel
theorem d_Md_fits_15 : decode b_Md_fits 15 = .ok (.if_icmp .ge (161), 3) := by decide +kernel
theorem d_Md_fits_18 : decode b_Md_fits 18 = .ok (.iload 4, 2) := by decide +kernel
theorem d_Md_fits_20 : decode b_Md_fits 20 = .ok (.ifCond .eq (156), 3) := by decide +kernel
theorem d_Md_fits_23 : decode b_Md_fits 23 = .ok (.iload_n 3, 1) := by decide +kernel
theorem d_Md_fits_24 : decode b_Md_fits 24 = .ok (.ifCond .eq (38), 3) := by decide +kernel
theorem d_Md_fits_27 : decode b_Md_fits 27 = .ok (.aload_n 0, 1) := by decide +kernel
theorem d_Md_fits_28 : decode b_Md_fits 28 = .ok (.getfield 84, 3) := by decide +kernel
theorem d_Md_fits_31 : decode b_Md_fits 31 = .ok (.iconst (-1), 1) := by decide +kernel
theorem d_Md_fits_32 : decode b_Md_fits 32 = .ok (.if_icmp .eq (30), 3) := by decide +kernel
theorem d_Md_fits_35 : decode b_Md_fits 35 = .ok (.iload 5, 2) := by decide +kernel
theorem d_Md_fits_37 : decode b_Md_fits 37 = .ok (.aload_n 0, 1) := by decide +kernel
theorem d_Md_fits_38 : decode b_Md_fits 38 = .ok (.getfield 84, 3) := by decide +kernel
theorem d_Md_fits_41 : decode b_Md_fits 41 = .ok (.if_icmp .lt (21), 3) := by decide +kernel
theorem d_Md_fits_44 : decode b_Md_fits 44 = .ok (.iload 5, 2) := by decide +kernel
theorem d_Md_fits_46 : decode b_Md_fits 46 = .ok (.aload_n 0, 1) := by decide +kernel
theorem d_Md_fits_47 : decode b_Md_fits 47 = .ok (.getfield 84, 3) := by decide +kernel
theorem d_Md_fits_50 : decode b_Md_fits 50 = .ok (.aload_n 0, 1) := by decide +kernel
theorem d_Md_fits_51 : decode b_Md_fits 51 = .ok (.getfield 162, 3) := by decide +kernel
theorem d_Md_fits_54 : decode b_Md_fits 54 = .ok (.iadd, 1) := by decide +kernel
theorem d_Md_fits_55 : decode b_Md_fits 55 = .ok (.if_icmp .ge (7), 3) := by decide +kernel
theorem d_Md_fits_58 : decode b_Md_fits 58 = .ok (.iconst 1, 1) := by decide +kernel
theorem d_Md_fits_59 : decode b_Md_fits 59 = .ok (.goto (4), 3) := by decide +kernel
theorem d_Md_fits_62 : decode b_Md_fits 62 = .ok (.iconst 0, 1) := by decide +kernel
theorem d_Md_fits_63 : decode b_Md_fits 63 = .ok (.istore 6, 2) := by decide +kernel
theorem d_Md_fits_65 : decode b_Md_fits 65 = .ok (.aload_n 0, 1) := by decide +kernel
theorem d_Md_fits_66 : decode b_Md_fits 66 = .ok (.getfield 87, 3) := by decide +kernel
theorem d_Md_fits_69 : decode b_Md_fits 69 = .ok (.iload 5, 2) := by decide +kernel
theorem d_Md_fits_71 : decode b_Md_fits 71 = .ok (.aload_n 0, 1) := by decide +kernel
theorem d_Md_fits_72 : decode b_Md_fits 72 = .ok (.getfield 148, 3) := by decide +kernel
theorem d_Md_fits_75 : decode b_Md_fits 75 = .ok (.isub, 1) := by decide +kernel
theorem d_Md_fits_76 : decode b_Md_fits 76 = .ok (.iaload, 1) := by decide +kernel
theorem d_Md_fits_77 : decode b_Md_fits 77 = .ok (.aload_n 0, 1) := by decide +kernel
theorem d_Md_fits_78 : decode b_Md_fits 78 = .ok (.getfield 33, 3) := by decide +kernel
theorem d_Md_fits_81 : decode b_Md_fits 81 = .ok (.iload_n 1, 1) := by decide +kernel
theorem d_Md_fits_82 : decode b_Md_fits 82 = .ok (.iaload, 1) := by decide +kernel
theorem d_Md_fits_83 : decode b_Md_fits 83 = .ok (.iadd, 1) := by decide +kernel
theorem d_Md_fits_84 : decode b_Md_fits 84 = .ok (.iload 6, 2) := by decide +kernel
theorem d_Md_fits_86 : decode b_Md_fits 86 = .ok (.ifCond .eq (15), 3) := by decide +kernel
theorem d_Md_fits_89 : decode b_Md_fits 89 = .ok (.aload_n 0, 1) := by decide +kernel
theorem d_Md_fits_90 : decode b_Md_fits 90 = .ok (.getfield 33, 3) := by decide +kernel
theorem d_Md_fits_93 : decode b_Md_fits 93 = .ok (.aload_n 0, 1) := by decide +kernel
theorem d_Md_fits_94 : decode b_Md_fits 94 = .ok (.getfield 81, 3) := by decide +kernel
theorem d_Md_fits_97 : decode b_Md_fits 97 = .ok (.iaload, 1) := by decide +kernel
theorem d_Md_fits_98 : decode b_Md_fits 98 = .ok (.goto (4), 3) := by decide +kernel
theorem d_Md_fits_101 : decode b_Md_fits 101 = .ok (.iconst 0, 1) := by decide +kernel
theorem d_Md_fits_102 : decode b_Md_fits 102 = .ok (.iadd, 1) := by decide +kernel
theorem d_Md_fits_103 : decode b_Md_fits 103 = .ok (.istore 7, 2) := by decide +kernel
theorem d_Md_fits_105 : decode b_Md_fits 105 = .ok (.aload_n 0, 1) := by decide +kernel
theorem d_Md_fits_106 : decode b_Md_fits 106 = .ok (.getfield 90, 3) := by decide +kernel
theorem d_Md_fits_109 : decode b_Md_fits 109 = .ok (.iload 5, 2) := by decide +kernel
theorem d_Md_fits_111 : decode b_Md_fits 111 = .ok (.aload_n 0, 1) := by decide +kernel
theorem d_Md_fits_112 : decode b_Md_fits 112 = .ok (.getfield 148, 3) := by decide +kernel
theorem d_Md_fits_115 : decode b_Md_fits 115 = .ok (.isub, 1) := by decide +kernel
theorem d_Md_fits_116 : decode b_Md_fits 116 = .ok (.iaload, 1) := by decide +kernel
theorem d_Md_fits_117 : decode b_Md_fits 117 = .ok (.aload_n 0, 1) := by decide +kernel
theorem d_Md_fits_118 : decode b_Md_fits 118 = .ok (.getfield 36, 3) := by decide +kernel
theorem d_Md_fits_121 : decode b_Md_fits 121 = .ok (.iload_n 1, 1) := by decide +kernel
theorem d_Md_fits_122 : decode b_Md_fits 122 = .ok (.iaload, 1) := by decide +kernel
theorem d_Md_fits_123 : decode b_Md_fits 123 = .ok (.iadd, 1) := by decide +kernel
theorem d_Md_fits_124 : decode b_Md_fits 124 = .ok (.iload 6, 2) := by decide +kernel
theorem d_Md_fits_126 : decode b_Md_fits 126 = .ok (.ifCond .eq (15), 3) := by decide +kernel
theorem d_Md_fits_129 : decode b_Md_fits 129 = .ok (.aload_n 0, 1) := by decide +kernel
theorem d_Md_fits_130 : decode b_Md_fits 130 = .ok (.getfield 36, 3) := by decide +kernel
theorem d_Md_fits_133 : decode b_Md_fits 133 = .ok (.aload_n 0, 1) := by decide +kernel
theorem d_Md_fits_134 : decode b_Md_fits 134 = .ok (.getfield 81, 3) := by decide +kernel
theorem d_Md_fits_137 : decode b_Md_fits 137 = .ok (.iaload, 1) := by decide +kernel
theorem d_Md_fits_138 : decode b_Md_fits 138 = .ok (.goto (4), 3) := by decide +kernel
theorem d_Md_fits_141 : decode b_Md_fits 141 = .ok (.iconst 0, 1) := by decide +kernel
theorem d_Md_fits_142 : decode b_Md_fits 142 = .ok (.iadd, 1) := by decide +kernel
theorem d_Md_fits_143 : decode b_Md_fits 143 = .ok (.istore 8, 2) := by decide +kernel
theorem d_Md_fits_145 : decode b_Md_fits 145 = .ok (.iload 7, 2) := by decide +kernel
theorem d_Md_fits_147 : decode b_Md_fits 147 = .ok (.aload_n 0, 1) := by decide +kernel
theorem d_Md_fits_148 : decode b_Md_fits 148 = .ok (.getfield 165, 3) := by decide +kernel
theorem d_Md_fits_151 : decode b_Md_fits 151 = .ok (.if_icmp .gt (16), 3) := by decide +kernel
theorem d_Md_fits_154 : decode b_Md_fits 154 = .ok (.iload 8, 2) := by decide +kernel
theorem d_Md_fits_156 : decode b_Md_fits 156 = .ok (.aload_n 0, 1) := by decide +kernel
theorem d_Md_fits_157 : decode b_Md_fits 157 = .ok (.getfield 13, 3) := by decide +kernel
theorem d_Md_fits_160 : decode b_Md_fits 160 = .ok (.if_icmp .gt (7), 3) := by decide +kernel
theorem d_Md_fits_163 : decode b_Md_fits 163 = .ok (.iconst 1, 1) := by decide +kernel
theorem d_Md_fits_164 : decode b_Md_fits 164 = .ok (.goto (4), 3) := by decide +kernel
theorem d_Md_fits_167 : decode b_Md_fits 167 = .ok (.iconst 0, 1) := by decide +kernel
theorem d_Md_fits_168 : decode b_Md_fits 168 = .ok (.istore 4, 2) := by decide +kernel
theorem d_Md_fits_170 : decode b_Md_fits 170 = .ok (.iinc 5 (1), 3) := by decide +kernel
theorem d_Md_fits_173 : decode b_Md_fits 173 = .ok (.goto (-167), 3) := by decide +kernel
theorem d_Md_fits_176 : decode b_Md_fits 176 = .ok (.iload 4, 2) := by decide +kernel
theorem d_Md_fits_178 : decode b_Md_fits 178 = .ok (.ireturn, 1) := by decide +kernel
theorem d_Md_freeOn_0 : decode b_Md_freeOn 0 = .ok (.aload_n 0, 1) := by decide +kernel
theorem d_Md_freeOn_1 : decode b_Md_freeOn 1 = .ok (.getfield 16, 3) := by decide +kernel
theorem d_Md_freeOn_4 : decode b_Md_freeOn 4 = .ok (.iload_n 1, 1) := by decide +kernel
theorem d_Md_freeOn_5 : decode b_Md_freeOn 5 = .ok (.iaload, 1) := by decide +kernel
theorem d_Md_freeOn_6 : decode b_Md_freeOn 6 = .ok (.istore_n 2, 1) := by decide +kernel
theorem d_Md_freeOn_7 : decode b_Md_freeOn 7 = .ok (.iconst 0, 1) := by decide +kernel
theorem d_Md_freeOn_8 : decode b_Md_freeOn 8 = .ok (.istore_n 3, 1) := by decide +kernel
theorem d_Md_freeOn_9 : decode b_Md_freeOn 9 = .ok (.iload_n 3, 1) := by decide +kernel
theorem d_Md_freeOn_10 : decode b_Md_freeOn 10 = .ok (.aload_n 0, 1) := by decide +kernel
theorem d_Md_freeOn_11 : decode b_Md_freeOn 11 = .ok (.getfield 124, 3) := by decide +kernel
theorem d_Md_freeOn_14 : decode b_Md_freeOn 14 = .ok (.if_icmp .ge (22), 3) := by decide +kernel
theorem d_Md_freeOn_17 : decode b_Md_freeOn 17 = .ok (.iload_n 2, 1) := by decide +kernel
theorem d_Md_freeOn_18 : decode b_Md_freeOn 18 = .ok (.aload_n 0, 1) := by decide +kernel
theorem d_Md_freeOn_19 : decode b_Md_freeOn 19 = .ok (.getfield 69, 3) := by decide +kernel
theorem d_Md_freeOn_22 : decode b_Md_freeOn 22 = .ok (.iconst 4, 1) := by decide +kernel
theorem d_Md_freeOn_23 : decode b_Md_freeOn 23 = .ok (.iload_n 3, 1) := by decide +kernel
theorem d_Md_freeOn_24 : decode b_Md_freeOn 24 = .ok (.imul, 1) := by decide +kernel
theorem d_Md_freeOn_25 : decode b_Md_freeOn 25 = .ok (.iload_n 1, 1) := by decide +kernel
theorem d_Md_freeOn_26 : decode b_Md_freeOn 26 = .ok (.iadd, 1) := by decide +kernel
theorem d_Md_freeOn_27 : decode b_Md_freeOn 27 = .ok (.iaload, 1) := by decide +kernel
theorem d_Md_freeOn_28 : decode b_Md_freeOn 28 = .ok (.isub, 1) := by decide +kernel
theorem d_Md_freeOn_29 : decode b_Md_freeOn 29 = .ok (.istore_n 2, 1) := by decide +kernel
theorem d_Md_freeOn_30 : decode b_Md_freeOn 30 = .ok (.iinc 3 (1), 3) := by decide +kernel
theorem d_Md_freeOn_33 : decode b_Md_freeOn 33 = .ok (.goto (-24), 3) := by decide +kernel
theorem d_Md_freeOn_36 : decode b_Md_freeOn 36 = .ok (.iload_n 2, 1) := by decide +kernel
theorem d_Md_freeOn_37 : decode b_Md_freeOn 37 = .ok (.ireturn, 1) := by decide +kernel
theorem d_Md_begin_0 : decode b_Md_begin 0 = .ok (.iconst 0, 1) := by decide +kernel
theorem d_Md_begin_1 : decode b_Md_begin 1 = .ok (.istore_n 2, 1) := by decide +kernel
theorem d_Md_begin_2 : decode b_Md_begin 2 = .ok (.iconst 5, 1) := by decide +kernel
theorem d_Md_begin_3 : decode b_Md_begin 3 = .ok (.istore_n 3, 1) := by decide +kernel
theorem d_Md_begin_4 : decode b_Md_begin 4 = .ok (.iconst 1, 1) := by decide +kernel
theorem d_Md_begin_5 : decode b_Md_begin 5 = .ok (.istore 4, 2) := by decide +kernel
theorem d_Md_begin_7 : decode b_Md_begin 7 = .ok (.iload 4, 2) := by decide +kernel
theorem d_Md_begin_9 : decode b_Md_begin 9 = .ok (.iconst 1, 1) := by decide +kernel
theorem d_Md_begin_10 : decode b_Md_begin 10 = .ok (.aload_n 0, 1) := by decide +kernel
theorem d_Md_begin_11 : decode b_Md_begin 11 = .ok (.getfield 117, 3) := by decide +kernel
theorem d_Md_begin_14 : decode b_Md_begin 14 = .ok (.ishl, 1) := by decide +kernel
theorem d_Md_begin_15 : decode b_Md_begin 15 = .ok (.if_icmp .ge (111), 3) := by decide +kernel
theorem d_Md_begin_18 : decode b_Md_begin 18 = .ok (.iconst 0, 1) := by decide +kernel
theorem d_Md_begin_19 : decode b_Md_begin 19 = .ok (.istore 5, 2) := by decide +kernel
theorem d_Md_begin_21 : decode b_Md_begin 21 = .ok (.iconst 0, 1) := by decide +kernel
theorem d_Md_begin_22 : decode b_Md_begin 22 = .ok (.istore 6, 2) := by decide +kernel
theorem d_Md_begin_24 : decode b_Md_begin 24 = .ok (.iconst 1, 1) := by decide +kernel
theorem d_Md_begin_25 : decode b_Md_begin 25 = .ok (.istore 7, 2) := by decide +kernel
theorem d_Md_begin_27 : decode b_Md_begin 27 = .ok (.iconst 0, 1) := by decide +kernel
theorem d_Md_begin_28 : decode b_Md_begin 28 = .ok (.istore 8, 2) := by decide +kernel
theorem d_Md_begin_30 : decode b_Md_begin 30 = .ok (.iload 8, 2) := by decide +kernel
theorem d_Md_begin_32 : decode b_Md_begin 32 = .ok (.aload_n 0, 1) := by decide +kernel
theorem d_Md_begin_33 : decode b_Md_begin 33 = .ok (.getfield 117, 3) := by decide +kernel
theorem d_Md_begin_36 : decode b_Md_begin 36 = .ok (.if_icmp .ge (56), 3) := by decide +kernel
theorem d_Md_begin_39 : decode b_Md_begin 39 = .ok (.iload 4, 2) := by decide +kernel
theorem d_Md_begin_41 : decode b_Md_begin 41 = .ok (.iload 8, 2) := by decide +kernel
theorem d_Md_begin_43 : decode b_Md_begin 43 = .ok (.ishr, 1) := by decide +kernel
theorem d_Md_begin_44 : decode b_Md_begin 44 = .ok (.iconst 1, 1) := by decide +kernel
theorem d_Md_begin_45 : decode b_Md_begin 45 = .ok (.iand, 1) := by decide +kernel
theorem d_Md_begin_46 : decode b_Md_begin 46 = .ok (.iconst 1, 1) := by decide +kernel
theorem d_Md_begin_47 : decode b_Md_begin 47 = .ok (.if_icmp .ne (39), 3) := by decide +kernel
theorem d_Md_begin_50 : decode b_Md_begin 50 = .ok (.iload 5, 2) := by decide +kernel
theorem d_Md_begin_52 : decode b_Md_begin 52 = .ok (.aload_n 0, 1) := by decide +kernel
theorem d_Md_begin_53 : decode b_Md_begin 53 = .ok (.iload 8, 2) := by decide +kernel
theorem d_Md_begin_55 : decode b_Md_begin 55 = .ok (.invokevirtual 168, 3) := by decide +kernel
theorem d_Md_begin_58 : decode b_Md_begin 58 = .ok (.iadd, 1) := by decide +kernel
theorem d_Md_begin_59 : decode b_Md_begin 59 = .ok (.istore 5, 2) := by decide +kernel
theorem d_Md_begin_61 : decode b_Md_begin 61 = .ok (.iinc 6 (1), 3) := by decide +kernel
theorem d_Md_begin_64 : decode b_Md_begin 64 = .ok (.iload 7, 2) := by decide +kernel
theorem d_Md_begin_66 : decode b_Md_begin 66 = .ok (.ifCond .eq (17), 3) := by decide +kernel
theorem d_Md_begin_69 : decode b_Md_begin 69 = .ok (.aload_n 0, 1) := by decide +kernel
theorem d_Md_begin_70 : decode b_Md_begin 70 = .ok (.getfield 20, 3) := by decide +kernel
theorem d_Md_begin_73 : decode b_Md_begin 73 = .ok (.iload 8, 2) := by decide +kernel
theorem d_Md_begin_75 : decode b_Md_begin 75 = .ok (.baload, 1) := by decide +kernel
theorem d_Md_begin_76 : decode b_Md_begin 76 = .ok (.ifCond .ne (7), 3) := by decide +kernel
theorem d_Md_begin_79 : decode b_Md_begin 79 = .ok (.iconst 1, 1) := by decide +kernel
theorem d_Md_begin_80 : decode b_Md_begin 80 = .ok (.goto (4), 3) := by decide +kernel
theorem d_Md_begin_83 : decode b_Md_begin 83 = .ok (.iconst 0, 1) := by decide +kernel
theorem d_Md_begin_84 : decode b_Md_begin 84 = .ok (.istore 7, 2) := by decide +kernel
theorem d_Md_begin_86 : decode b_Md_begin 86 = .ok (.iinc 8 (1), 3) := by decide +kernel
theorem d_Md_begin_89 : decode b_Md_begin 89 = .ok (.goto (-59), 3) := by decide +kernel
theorem d_Md_begin_92 : decode b_Md_begin 92 = .ok (.iload 7, 2) := by decide +kernel
theorem d_Md_begin_94 : decode b_Md_begin 94 = .ok (.ifCond .eq (26), 3) := by decide +kernel
theorem d_Md_begin_97 : decode b_Md_begin 97 = .ok (.iload 5, 2) := by decide +kernel
theorem d_Md_begin_99 : decode b_Md_begin 99 = .ok (.aload_n 0, 1) := by decide +kernel
theorem d_Md_begin_100 : decode b_Md_begin 100 = .ok (.getfield 33, 3) := by decide +kernel
theorem d_Md_begin_103 : decode b_Md_begin 103 = .ok (.iload_n 1, 1) := by decide +kernel
theorem d_Md_begin_104 : decode b_Md_begin 104 = .ok (.iaload, 1) := by decide +kernel
theorem d_Md_begin_105 : decode b_Md_begin 105 = .ok (.if_icmp .lt (15), 3) := by decide +kernel
theorem d_Md_begin_108 : decode b_Md_begin 108 = .ok (.iload 6, 2) := by decide +kernel
theorem d_Md_begin_110 : decode b_Md_begin 110 = .ok (.iload_n 3, 1) := by decide +kernel
theorem d_Md_begin_111 : decode b_Md_begin 111 = .ok (.if_icmp .ge (9), 3) := by decide +kernel
theorem d_Md_begin_114 : decode b_Md_begin 114 = .ok (.iload 6, 2) := by decide +kernel
theorem d_Md_begin_116 : decode b_Md_begin 116 = .ok (.istore_n 3, 1) := by decide +kernel
theorem d_Md_begin_117 : decode b_Md_begin 117 = .ok (.iload 4, 2) := by decide +kernel
theorem d_Md_begin_119 : decode b_Md_begin 119 = .ok (.istore_n 2, 1) := by decide +kernel
theorem d_Md_begin_120 : decode b_Md_begin 120 = .ok (.iinc 4 (1), 3) := by decide +kernel
theorem d_Md_begin_123 : decode b_Md_begin 123 = .ok (.goto (-116), 3) := by decide +kernel
theorem d_Md_begin_126 : decode b_Md_begin 126 = .ok (.aload_n 0, 1) := by decide +kernel
theorem d_Md_begin_127 : decode b_Md_begin 127 = .ok (.getfield 33, 3) := by decide +kernel
theorem d_Md_begin_130 : decode b_Md_begin 130 = .ok (.iload_n 1, 1) := by decide +kernel
theorem d_Md_begin_131 : decode b_Md_begin 131 = .ok (.iaload, 1) := by decide +kernel
theorem d_Md_begin_132 : decode b_Md_begin 132 = .ok (.istore 4, 2) := by decide +kernel
theorem d_Md_begin_134 : decode b_Md_begin 134 = .ok (.iconst 0, 1) := by decide +kernel
theorem d_Md_begin_135 : decode b_Md_begin 135 = .ok (.istore 5, 2) := by decide +kernel
theorem d_Md_begin_137 : decode b_Md_begin 137 = .ok (.iload 5, 2) := by decide +kernel
theorem d_Md_begin_139 : decode b_Md_begin 139 = .ok (.aload_n 0, 1) := by decide +kernel
theorem d_Md_begin_140 : decode b_Md_begin 140 = .ok (.getfield 117, 3) := by decide +kernel
theorem d_Md_begin_143 : decode b_Md_begin 143 = .ok (.if_icmp .ge (63), 3) := by decide +kernel
theorem d_Md_begin_146 : decode b_Md_begin 146 = .ok (.iload_n 2, 1) := by decide +kernel
theorem d_Md_begin_147 : decode b_Md_begin 147 = .ok (.iload 5, 2) := by decide +kernel
theorem d_Md_begin_149 : decode b_Md_begin 149 = .ok (.ishr, 1) := by decide +kernel
theorem d_Md_begin_150 : decode b_Md_begin 150 = .ok (.iconst 1, 1) := by decide +kernel
theorem d_Md_begin_151 : decode b_Md_begin 151 = .ok (.iand, 1) := by decide +kernel
theorem d_Md_begin_152 : decode b_Md_begin 152 = .ok (.iconst 1, 1) := by decide +kernel
theorem d_Md_begin_153 : decode b_Md_begin 153 = .ok (.if_icmp .ne (47), 3) := by decide +kernel
theorem d_Md_begin_156 : decode b_Md_begin 156 = .ok (.aload_n 0, 1) := by decide +kernel
theorem d_Md_begin_157 : decode b_Md_begin 157 = .ok (.iload 5, 2) := by decide +kernel
theorem d_Md_begin_159 : decode b_Md_begin 159 = .ok (.invokevirtual 168, 3) := by decide +kernel
theorem d_Md_begin_162 : decode b_Md_begin 162 = .ok (.istore 6, 2) := by decide +kernel
theorem d_Md_begin_164 : decode b_Md_begin 164 = .ok (.iload 6, 2) := by decide +kernel
theorem d_Md_begin_166 : decode b_Md_begin 166 = .ok (.iload 4, 2) := by decide +kernel
theorem d_Md_begin_168 : decode b_Md_begin 168 = .ok (.if_icmp .ge (8), 3) := by decide +kernel
theorem d_Md_begin_171 : decode b_Md_begin 171 = .ok (.iload 6, 2) := by decide +kernel
theorem d_Md_begin_173 : decode b_Md_begin 173 = .ok (.goto (5), 3) := by decide +kernel
theorem d_Md_begin_176 : decode b_Md_begin 176 = .ok (.iload 4, 2) := by decide +kernel
theorem d_Md_begin_178 : decode b_Md_begin 178 = .ok (.istore 7, 2) := by decide +kernel
theorem d_Md_begin_180 : decode b_Md_begin 180 = .ok (.aload_n 0, 1) := by decide +kernel
theorem d_Md_begin_181 : decode b_Md_begin 181 = .ok (.getfield 69, 3) := by decide +kernel
theorem d_Md_begin_184 : decode b_Md_begin 184 = .ok (.iconst 4, 1) := by decide +kernel
theorem d_Md_begin_185 : decode b_Md_begin 185 = .ok (.iload_n 1, 1) := by decide +kernel
theorem d_Md_begin_186 : decode b_Md_begin 186 = .ok (.imul, 1) := by decide +kernel
theorem d_Md_begin_187 : decode b_Md_begin 187 = .ok (.iload 5, 2) := by decide +kernel
theorem d_Md_begin_189 : decode b_Md_begin 189 = .ok (.iadd, 1) := by decide +kernel
theorem d_Md_begin_190 : decode b_Md_begin 190 = .ok (.iload 7, 2) := by decide +kernel
theorem d_Md_begin_192 : decode b_Md_begin 192 = .ok (.iastore, 1) := by decide +kernel
theorem d_Md_begin_193 : decode b_Md_begin 193 = .ok (.iload 4, 2) := by decide +kernel
theorem d_Md_begin_195 : decode b_Md_begin 195 = .ok (.iload 7, 2) := by decide +kernel
theorem d_Md_begin_197 : decode b_Md_begin 197 = .ok (.isub, 1) := by decide +kernel
theorem d_Md_begin_198 : decode b_Md_begin 198 = .ok (.istore 4, 2) := by decide +kernel
theorem d_Md_begin_200 : decode b_Md_begin 200 = .ok (.iinc 5 (1), 3) := by decide +kernel
theorem d_Md_begin_203 : decode b_Md_begin 203 = .ok (.goto (-66), 3) := by decide +kernel
theorem d_Md_begin_206 : decode b_Md_begin 206 = .ok (.aload_n 0, 1) := by decide +kernel
theorem d_Md_begin_207 : decode b_Md_begin 207 = .ok (.getfield 51, 3) := by decide +kernel
theorem d_Md_begin_210 : decode b_Md_begin 210 = .ok (.iload_n 1, 1) := by decide +kernel
theorem d_Md_begin_211 : decode b_Md_begin 211 = .ok (.iconst 1, 1) := by decide +kernel
theorem d_Md_begin_212 : decode b_Md_begin 212 = .ok (.iastore, 1) := by decide +kernel
theorem d_Md_begin_213 : decode b_Md_begin 213 = .ok (.aload_n 0, 1) := by decide +kernel
theorem d_Md_begin_214 : decode b_Md_begin 214 = .ok (.getfield 54, 3) := by decide +kernel
theorem d_Md_begin_217 : decode b_Md_begin 217 = .ok (.iload_n 1, 1) := by decide +kernel
theorem d_Md_begin_218 : decode b_Md_begin 218 = .ok (.aload_n 0, 1) := by decide +kernel
theorem d_Md_begin_219 : decode b_Md_begin 219 = .ok (.getfield 148, 3) := by decide +kernel
theorem d_Md_begin_222 : decode b_Md_begin 222 = .ok (.iastore, 1) := by decide +kernel
theorem d_Md_begin_223 : decode b_Md_begin 223 = .ok (.aload_n 0, 1) := by decide +kernel
theorem d_Md_begin_224 : decode b_Md_begin 224 = .ok (.getfield 63, 3) := by decide +kernel
theorem d_Md_begin_227 : decode b_Md_begin 227 = .ok (.iload_n 1, 1) := by decide +kernel
theorem d_Md_begin_228 : decode b_Md_begin 228 = .ok (.iconst 0, 1) := by decide +kernel
theorem d_Md_begin_229 : decode b_Md_begin 229 = .ok (.iastore, 1) := by decide +kernel
theorem d_Md_begin_230 : decode b_Md_begin 230 = .ok (.aload_n 0, 1) := by decide +kernel
theorem d_Md_begin_231 : decode b_Md_begin 231 = .ok (.getfield 66, 3) := by decide +kernel
theorem d_Md_begin_234 : decode b_Md_begin 234 = .ok (.iload_n 1, 1) := by decide +kernel
theorem d_Md_begin_235 : decode b_Md_begin 235 = .ok (.aload_n 0, 1) := by decide +kernel
theorem d_Md_begin_236 : decode b_Md_begin 236 = .ok (.iload_n 1, 1) := by decide +kernel
theorem d_Md_begin_237 : decode b_Md_begin 237 = .ok (.invokevirtual 159, 3) := by decide +kernel
theorem d_Md_begin_240 : decode b_Md_begin 240 = .ok (.iastore, 1) := by decide +kernel
theorem d_Md_begin_241 : decode b_Md_begin 241 = .ok (.iconst 0, 1) := by decide +kernel
theorem d_Md_begin_242 : decode b_Md_begin 242 = .ok (.istore 5, 2) := by decide +kernel
theorem d_Md_begin_244 : decode b_Md_begin 244 = .ok (.iload 5, 2) := by decide +kernel
theorem d_Md_begin_246 : decode b_Md_begin 246 = .ok (.aload_n 0, 1) := by decide +kernel
theorem d_Md_begin_247 : decode b_Md_begin 247 = .ok (.getfield 66, 3) := by decide +kernel
theorem d_Md_begin_250 : decode b_Md_begin 250 = .ok (.iload_n 1, 1) := by decide +kernel
theorem d_Md_begin_251 : decode b_Md_begin 251 = .ok (.iaload, 1) := by decide +kernel
theorem d_Md_begin_252 : decode b_Md_begin 252 = .ok (.if_icmp .ge (41), 3) := by decide +kernel
theorem d_Md_begin_255 : decode b_Md_begin 255 = .ok (.aload_n 0, 1) := by decide +kernel
theorem d_Md_begin_256 : decode b_Md_begin 256 = .ok (.getfield 87, 3) := by decide +kernel
theorem d_Md_begin_259 : decode b_Md_begin 259 = .ok (.iload 5, 2) := by decide +kernel
theorem d_Md_begin_261 : decode b_Md_begin 261 = .ok (.dup2, 1) := by decide +kernel
theorem d_Md_begin_262 : decode b_Md_begin 262 = .ok (.iaload, 1) := by decide +kernel
theorem d_Md_begin_263 : decode b_Md_begin 263 = .ok (.aload_n 0, 1) := by decide +kernel
theorem d_Md_begin_264 : decode b_Md_begin 264 = .ok (.getfield 33, 3) := by decide +kernel
theorem d_Md_begin_267 : decode b_Md_begin 267 = .ok (.iload_n 1, 1) := by decide +kernel
theorem d_Md_begin_268 : decode b_Md_begin 268 = .ok (.iaload, 1) := by decide +kernel
theorem d_Md_begin_269 : decode b_Md_begin 269 = .ok (.iadd, 1) := by decide +kernel
theorem d_Md_begin_270 : decode b_Md_begin 270 = .ok (.iastore, 1) := by decide +kernel
theorem d_Md_begin_271 : decode b_Md_begin 271 = .ok (.aload_n 0, 1) := by decide +kernel
theorem d_Md_begin_272 : decode b_Md_begin 272 = .ok (.getfield 90, 3) := by decide +kernel
theorem d_Md_begin_275 : decode b_Md_begin 275 = .ok (.iload 5, 2) := by decide +kernel
theorem d_Md_begin_277 : decode b_Md_begin 277 = .ok (.dup2, 1) := by decide +kernel
theorem d_Md_begin_278 : decode b_Md_begin 278 = .ok (.iaload, 1) := by decide +kernel
theorem d_Md_begin_279 : decode b_Md_begin 279 = .ok (.aload_n 0, 1) := by decide +kernel
theorem d_Md_begin_280 : decode b_Md_begin 280 = .ok (.getfield 36, 3) := by decide +kernel
theorem d_Md_begin_283 : decode b_Md_begin 283 = .ok (.iload_n 1, 1) := by decide +kernel
theorem d_Md_begin_284 : decode b_Md_begin 284 = .ok (.iaload, 1) := by decide +kernel
theorem d_Md_begin_285 : decode b_Md_begin 285 = .ok (.iadd, 1) := by decide +kernel
theorem d_Md_begin_286 : decode b_Md_begin 286 = .ok (.iastore, 1) := by decide +kernel
theorem d_Md_begin_287 : decode b_Md_begin 287 = .ok (.iinc 5 (1), 3) := by decide +kernel
theorem d_Md_begin_290 : decode b_Md_begin 290 = .ok (.goto (-46), 3) := by decide +kernel
theorem d_Md_begin_293 : decode b_Md_begin 293 = .ok (.return_, 1) := by decide +kernel
theorem d_Md_findTaken_0 : decode b_Md_findTaken 0 = .ok (.aload_n 0, 1) := by decide +kernel
theorem d_Md_findTaken_1 : decode b_Md_findTaken 1 = .ok (.aload_n 0, 1) := by decide +kernel
theorem d_Md_findTaken_2 : decode b_Md_findTaken 2 = .ok (.invokevirtual 151, 3) := by decide +kernel
theorem d_Md_findTaken_5 : decode b_Md_findTaken 5 = .ok (.putfield 165, 3) := by decide +kernel
theorem d_Md_findTaken_8 : decode b_Md_findTaken 8 = .ok (.iconst 0, 1) := by decide +kernel
theorem d_Md_findTaken_9 : decode b_Md_findTaken 9 = .ok (.istore_n 1, 1) := by decide +kernel
theorem d_Md_findTaken_10 : decode b_Md_findTaken 10 = .ok (.iload_n 1, 1) := by decide +kernel
theorem d_Md_findTaken_11 : decode b_Md_findTaken 11 = .ok (.sipush (260), 3) := by decide +kernel
theorem d_Md_findTaken_14 : decode b_Md_findTaken 14 = .ok (.if_icmp .ge (23), 3) := by decide +kernel
theorem d_Md_findTaken_17 : decode b_Md_findTaken 17 = .ok (.aload_n 0, 1) := by decide +kernel
theorem d_Md_findTaken_18 : decode b_Md_findTaken 18 = .ok (.getfield 87, 3) := by decide +kernel
theorem d_Md_findTaken_21 : decode b_Md_findTaken 21 = .ok (.iload_n 1, 1) := by decide +kernel
theorem d_Md_findTaken_22 : decode b_Md_findTaken 22 = .ok (.iconst 0, 1) := by decide +kernel
theorem d_Md_findTaken_23 : decode b_Md_findTaken 23 = .ok (.iastore, 1) := by decide +kernel
theorem d_Md_findTaken_24 : decode b_Md_findTaken 24 = .ok (.aload_n 0, 1) := by decide +kernel
theorem d_Md_findTaken_25 : decode b_Md_findTaken 25 = .ok (.getfield 90, 3) := by decide +kernel
theorem d_Md_findTaken_28 : decode b_Md_findTaken 28 = .ok (.iload_n 1, 1) := by decide +kernel
theorem d_Md_findTaken_29 : decode b_Md_findTaken 29 = .ok (.iconst 0, 1) := by decide +kernel
theorem d_Md_findTaken_30 : decode b_Md_findTaken 30 = .ok (.iastore, 1) := by decide +kernel
theorem d_Md_findTaken_31 : decode b_Md_findTaken 31 = .ok (.iinc 1 (1), 3) := by decide +kernel
theorem d_Md_findTaken_34 : decode b_Md_findTaken 34 = .ok (.goto (-24), 3) := by decide +kernel
theorem d_Md_findTaken_37 : decode b_Md_findTaken 37 = .ok (.iconst 0, 1) := by decide +kernel
theorem d_Md_findTaken_38 : decode b_Md_findTaken 38 = .ok (.istore_n 1, 1) := by decide +kernel
theorem d_Md_findTaken_39 : decode b_Md_findTaken 39 = .ok (.iload_n 1, 1) := by decide +kernel
theorem d_Md_findTaken_40 : decode b_Md_findTaken 40 = .ok (.aload_n 0, 1) := by decide +kernel
theorem d_Md_findTaken_41 : decode b_Md_findTaken 41 = .ok (.getfield 124, 3) := by decide +kernel
theorem d_Md_findTaken_44 : decode b_Md_findTaken 44 = .ok (.if_icmp .ge (107), 3) := by decide +kernel
theorem d_Md_findTaken_47 : decode b_Md_findTaken 47 = .ok (.iconst 0, 1) := by decide +kernel
theorem d_Md_findTaken_48 : decode b_Md_findTaken 48 = .ok (.istore_n 2, 1) := by decide +kernel
theorem d_Md_findTaken_49 : decode b_Md_findTaken 49 = .ok (.iconst 0, 1) := by decide +kernel
theorem d_Md_findTaken_50 : decode b_Md_findTaken 50 = .ok (.istore_n 3, 1) := by decide +kernel
theorem d_Md_findTaken_51 : decode b_Md_findTaken 51 = .ok (.iload_n 3, 1) := by decide +kernel
theorem d_Md_findTaken_52 : decode b_Md_findTaken 52 = .ok (.aload_n 0, 1) := by decide +kernel
theorem d_Md_findTaken_53 : decode b_Md_findTaken 53 = .ok (.getfield 117, 3) := by decide +kernel
theorem d_Md_findTaken_56 : decode b_Md_findTaken 56 = .ok (.if_icmp .ge (35), 3) := by decide +kernel
theorem d_Md_findTaken_59 : decode b_Md_findTaken 59 = .ok (.iload_n 2, 1) := by decide +kernel
theorem d_Md_findTaken_60 : decode b_Md_findTaken 60 = .ok (.aload_n 0, 1) := by decide +kernel
theorem d_Md_findTaken_61 : decode b_Md_findTaken 61 = .ok (.getfield 20, 3) := by decide +kernel
theorem d_Md_findTaken_64 : decode b_Md_findTaken 64 = .ok (.iload_n 3, 1) := by decide +kernel
theorem d_Md_findTaken_65 : decode b_Md_findTaken 65 = .ok (.baload, 1) := by decide +kernel
theorem d_Md_findTaken_66 : decode b_Md_findTaken 66 = .ok (.ifCond .eq (7), 3) := by decide +kernel
theorem d_Md_findTaken_69 : decode b_Md_findTaken 69 = .ok (.iconst 0, 1) := by decide +kernel
theorem d_Md_findTaken_70 : decode b_Md_findTaken 70 = .ok (.goto (13), 3) := by decide +kernel
theorem d_Md_findTaken_73 : decode b_Md_findTaken 73 = .ok (.aload_n 0, 1) := by decide +kernel
theorem d_Md_findTaken_74 : decode b_Md_findTaken 74 = .ok (.getfield 69, 3) := by decide +kernel
theorem d_Md_findTaken_77 : decode b_Md_findTaken 77 = .ok (.iconst 4, 1) := by decide +kernel
theorem d_Md_findTaken_78 : decode b_Md_findTaken 78 = .ok (.iload_n 1, 1) := by decide +kernel
theorem d_Md_findTaken_79 : decode b_Md_findTaken 79 = .ok (.imul, 1) := by decide +kernel
theorem d_Md_findTaken_80 : decode b_Md_findTaken 80 = .ok (.iload_n 3, 1) := by decide +kernel
theorem d_Md_findTaken_81 : decode b_Md_findTaken 81 = .ok (.iadd, 1) := by decide +kernel
theorem d_Md_findTaken_82 : decode b_Md_findTaken 82 = .ok (.iaload, 1) := by decide +kernel
theorem d_Md_findTaken_83 : decode b_Md_findTaken 83 = .ok (.iadd, 1) := by decide +kernel
theorem d_Md_findTaken_84 : decode b_Md_findTaken 84 = .ok (.istore_n 2, 1) := by decide +kernel
theorem d_Md_findTaken_85 : decode b_Md_findTaken 85 = .ok (.iinc 3 (1), 3) := by decide +kernel
theorem d_Md_findTaken_88 : decode b_Md_findTaken 88 = .ok (.goto (-37), 3) := by decide +kernel
theorem d_Md_findTaken_91 : decode b_Md_findTaken 91 = .ok (.iconst 0, 1) := by decide +kernel
theorem d_Md_findTaken_92 : decode b_Md_findTaken 92 = .ok (.istore_n 3, 1) := by decide +kernel
theorem d_Md_findTaken_93 : decode b_Md_findTaken 93 = .ok (.iload_n 3, 1) := by decide +kernel
theorem d_Md_findTaken_94 : decode b_Md_findTaken 94 = .ok (.sipush (260), 3) := by decide +kernel
theorem d_Md_findTaken_97 : decode b_Md_findTaken 97 = .ok (.if_icmp .ge (48), 3) := by decide +kernel
theorem d_Md_findTaken_100 : decode b_Md_findTaken 100 = .ok (.aload_n 0, 1) := by decide +kernel
theorem d_Md_findTaken_101 : decode b_Md_findTaken 101 = .ok (.iload_n 1, 1) := by decide +kernel
theorem d_Md_findTaken_102 : decode b_Md_findTaken 102 = .ok (.aload_n 0, 1) := by decide +kernel
theorem d_Md_findTaken_103 : decode b_Md_findTaken 103 = .ok (.getfield 148, 3) := by decide +kernel
theorem d_Md_findTaken_106 : decode b_Md_findTaken 106 = .ok (.iload_n 3, 1) := by decide +kernel
theorem d_Md_findTaken_107 : decode b_Md_findTaken 107 = .ok (.iadd, 1) := by decide +kernel
theorem d_Md_findTaken_108 : decode b_Md_findTaken 108 = .ok (.invokevirtual 141, 3) := by decide +kernel
theorem d_Md_findTaken_111 : decode b_Md_findTaken 111 = .ok (.ifCond .eq (34), 3) := by decide +kernel
theorem d_Md_findTaken_114 : decode b_Md_findTaken 114 = .ok (.aload_n 0, 1) := by decide +kernel
theorem d_Md_findTaken_115 : decode b_Md_findTaken 115 = .ok (.getfield 87, 3) := by decide +kernel
theorem d_Md_findTaken_118 : decode b_Md_findTaken 118 = .ok (.iload_n 3, 1) := by decide +kernel
theorem d_Md_findTaken_119 : decode b_Md_findTaken 119 = .ok (.dup2, 1) := by decide +kernel
theorem d_Md_findTaken_120 : decode b_Md_findTaken 120 = .ok (.iaload, 1) := by decide +kernel
theorem d_Md_findTaken_121 : decode b_Md_findTaken 121 = .ok (.iload_n 2, 1) := by decide +kernel
theorem d_Md_findTaken_122 : decode b_Md_findTaken 122 = .ok (.iadd, 1) := by decide +kernel
theorem d_Md_findTaken_123 : decode b_Md_findTaken 123 = .ok (.iastore, 1) := by decide +kernel
theorem d_Md_findTaken_124 : decode b_Md_findTaken 124 = .ok (.aload_n 0, 1) := by decide +kernel
theorem d_Md_findTaken_125 : decode b_Md_findTaken 125 = .ok (.getfield 90, 3) := by decide +kernel
theorem d_Md_findTaken_128 : decode b_Md_findTaken 128 = .ok (.iload_n 3, 1) := by decide +kernel
theorem d_Md_findTaken_129 : decode b_Md_findTaken 129 = .ok (.dup2, 1) := by decide +kernel
theorem d_Md_findTaken_130 : decode b_Md_findTaken 130 = .ok (.iaload, 1) := by decide +kernel
theorem d_Md_findTaken_131 : decode b_Md_findTaken 131 = .ok (.aload_n 0, 1) := by decide +kernel
theorem d_Md_findTaken_132 : decode b_Md_findTaken 132 = .ok (.getfield 36, 3) := by decide +kernel
theorem d_Md_findTaken_135 : decode b_Md_findTaken 135 = .ok (.iload_n 1, 1) := by decide +kernel
theorem d_Md_findTaken_136 : decode b_Md_findTaken 136 = .ok (.iaload, 1) := by decide +kernel
theorem d_Md_findTaken_137 : decode b_Md_findTaken 137 = .ok (.iadd, 1) := by decide +kernel
theorem d_Md_findTaken_138 : decode b_Md_findTaken 138 = .ok (.iastore, 1) := by decide +kernel
theorem d_Md_findTaken_139 : decode b_Md_findTaken 139 = .ok (.iinc 3 (1), 3) := by decide +kernel
theorem d_Md_findTaken_142 : decode b_Md_findTaken 142 = .ok (.goto (-49), 3) := by decide +kernel
theorem d_Md_findTaken_145 : decode b_Md_findTaken 145 = .ok (.iinc 1 (1), 3) := by decide +kernel
theorem d_Md_findTaken_148 : decode b_Md_findTaken 148 = .ok (.goto (-109), 3) := by decide +kernel
theorem d_Md_findTaken_151 : decode b_Md_findTaken 151 = .ok (.iconst 0, 1) := by decide +kernel
theorem d_Md_findTaken_152 : decode b_Md_findTaken 152 = .ok (.istore_n 1, 1) := by decide +kernel
theorem d_Md_findTaken_153 : decode b_Md_findTaken 153 = .ok (.iload_n 1, 1) := by decide +kernel
theorem d_Md_findTaken_154 : decode b_Md_findTaken 154 = .ok (.aload_n 0, 1) := by decide +kernel
theorem d_Md_findTaken_155 : decode b_Md_findTaken 155 = .ok (.getfield 145, 3) := by decide +kernel
theorem d_Md_findTaken_158 : decode b_Md_findTaken 158 = .ok (.if_icmp .ge (83), 3) := by decide +kernel
theorem d_Md_findTaken_161 : decode b_Md_findTaken 161 = .ok (.aload_n 0, 1) := by decide +kernel
theorem d_Md_findTaken_162 : decode b_Md_findTaken 162 = .ok (.getfield 75, 3) := by decide +kernel
theorem d_Md_findTaken_165 : decode b_Md_findTaken 165 = .ok (.iload_n 1, 1) := by decide +kernel
theorem d_Md_findTaken_166 : decode b_Md_findTaken 166 = .ok (.iaload, 1) := by decide +kernel
theorem d_Md_findTaken_167 : decode b_Md_findTaken 167 = .ok (.aload_n 0, 1) := by decide +kernel
theorem d_Md_findTaken_168 : decode b_Md_findTaken 168 = .ok (.getfield 148, 3) := by decide +kernel
theorem d_Md_findTaken_171 : decode b_Md_findTaken 171 = .ok (.if_icmp .le (17), 3) := by decide +kernel
theorem d_Md_findTaken_174 : decode b_Md_findTaken 174 = .ok (.aload_n 0, 1) := by decide +kernel
theorem d_Md_findTaken_175 : decode b_Md_findTaken 175 = .ok (.getfield 75, 3) := by decide +kernel
theorem d_Md_findTaken_178 : decode b_Md_findTaken 178 = .ok (.iload_n 1, 1) := by decide +kernel
theorem d_Md_findTaken_179 : decode b_Md_findTaken 179 = .ok (.iaload, 1) := by decide +kernel
theorem d_Md_findTaken_180 : decode b_Md_findTaken 180 = .ok (.aload_n 0, 1) := by decide +kernel
theorem d_Md_findTaken_181 : decode b_Md_findTaken 181 = .ok (.getfield 148, 3) := by decide +kernel
theorem d_Md_findTaken_184 : decode b_Md_findTaken 184 = .ok (.isub, 1) := by decide +kernel
theorem d_Md_findTaken_185 : decode b_Md_findTaken 185 = .ok (.goto (4), 3) := by decide +kernel
theorem d_Md_findTaken_188 : decode b_Md_findTaken 188 = .ok (.iconst 0, 1) := by decide +kernel
theorem d_Md_findTaken_189 : decode b_Md_findTaken 189 = .ok (.istore_n 2, 1) := by decide +kernel
theorem d_Md_findTaken_190 : decode b_Md_findTaken 190 = .ok (.iload_n 2, 1) := by decide +kernel
theorem d_Md_findTaken_191 : decode b_Md_findTaken 191 = .ok (.istore_n 3, 1) := by decide +kernel
theorem d_Md_findTaken_192 : decode b_Md_findTaken 192 = .ok (.iload_n 3, 1) := by decide +kernel
theorem d_Md_findTaken_193 : decode b_Md_findTaken 193 = .ok (.sipush (260), 3) := by decide +kernel
theorem d_Md_findTaken_196 : decode b_Md_findTaken 196 = .ok (.if_icmp .ge (39), 3) := by decide +kernel
theorem d_Md_findTaken_199 : decode b_Md_findTaken 199 = .ok (.aload_n 0, 1) := by decide +kernel
theorem d_Md_findTaken_200 : decode b_Md_findTaken 200 = .ok (.getfield 148, 3) := by decide +kernel
theorem d_Md_findTaken_203 : decode b_Md_findTaken 203 = .ok (.iload_n 3, 1) := by decide +kernel
theorem d_Md_findTaken_204 : decode b_Md_findTaken 204 = .ok (.iadd, 1) := by decide +kernel
theorem d_Md_findTaken_205 : decode b_Md_findTaken 205 = .ok (.aload_n 0, 1) := by decide +kernel
theorem d_Md_findTaken_206 : decode b_Md_findTaken 206 = .ok (.getfield 78, 3) := by decide +kernel
theorem d_Md_findTaken_209 : decode b_Md_findTaken 209 = .ok (.iload_n 1, 1) := by decide +kernel
theorem d_Md_findTaken_210 : decode b_Md_findTaken 210 = .ok (.iaload, 1) := by decide +kernel
theorem d_Md_findTaken_211 : decode b_Md_findTaken 211 = .ok (.if_icmp .ge (24), 3) := by decide +kernel
theorem d_Md_findTaken_214 : decode b_Md_findTaken 214 = .ok (.aload_n 0, 1) := by decide +kernel
theorem d_Md_findTaken_215 : decode b_Md_findTaken 215 = .ok (.getfield 87, 3) := by decide +kernel
theorem d_Md_findTaken_218 : decode b_Md_findTaken 218 = .ok (.iload_n 3, 1) := by decide +kernel
theorem d_Md_findTaken_219 : decode b_Md_findTaken 219 = .ok (.dup2, 1) := by decide +kernel
theorem d_Md_findTaken_220 : decode b_Md_findTaken 220 = .ok (.iaload, 1) := by decide +kernel
theorem d_Md_findTaken_221 : decode b_Md_findTaken 221 = .ok (.aload_n 0, 1) := by decide +kernel
theorem d_Md_findTaken_222 : decode b_Md_findTaken 222 = .ok (.getfield 72, 3) := by decide +kernel
theorem d_Md_findTaken_225 : decode b_Md_findTaken 225 = .ok (.iload_n 1, 1) := by decide +kernel
theorem d_Md_findTaken_226 : decode b_Md_findTaken 226 = .ok (.iaload, 1) := by decide +kernel
theorem d_Md_findTaken_227 : decode b_Md_findTaken 227 = .ok (.iadd, 1) := by decide +kernel
theorem d_Md_findTaken_228 : decode b_Md_findTaken 228 = .ok (.iastore, 1) := by decide +kernel
theorem d_Md_findTaken_229 : decode b_Md_findTaken 229 = .ok (.iinc 3 (1), 3) := by decide +kernel
theorem d_Md_findTaken_232 : decode b_Md_findTaken 232 = .ok (.goto (-40), 3) := by decide +kernel
theorem d_Md_findTaken_235 : decode b_Md_findTaken 235 = .ok (.iinc 1 (1), 3) := by decide +kernel
theorem d_Md_findTaken_238 : decode b_Md_findTaken 238 = .ok (.goto (-85), 3) := by decide +kernel
theorem d_Md_findTaken_241 : decode b_Md_findTaken 241 = .ok (.return_, 1) := by decide +kernel
theorem d_Md_isAhead_0 : decode b_Md_isAhead 0 = .ok (.aload_n 0, 1) := by decide +kernel
theorem d_Md_isAhead_1 : decode b_Md_isAhead 1 = .ok (.getfield 27, 3) := by decide +kernel
theorem d_Md_isAhead_4 : decode b_Md_isAhead 4 = .ok (.aload_n 0, 1) := by decide +kernel
theorem d_Md_isAhead_5 : decode b_Md_isAhead 5 = .ok (.getfield 30, 3) := by decide +kernel
theorem d_Md_isAhead_8 : decode b_Md_isAhead 8 = .ok (.iload_n 1, 1) := by decide +kernel
theorem d_Md_isAhead_9 : decode b_Md_isAhead 9 = .ok (.iaload, 1) := by decide +kernel
theorem d_Md_isAhead_10 : decode b_Md_isAhead 10 = .ok (.iaload, 1) := by decide +kernel
theorem d_Md_isAhead_11 : decode b_Md_isAhead 11 = .ok (.i2l, 1) := by decide +kernel
theorem d_Md_isAhead_12 : decode b_Md_isAhead 12 = .ok (.aload_n 0, 1) := by decide +kernel
theorem d_Md_isAhead_13 : decode b_Md_isAhead 13 = .ok (.getfield 24, 3) := by decide +kernel
theorem d_Md_isAhead_16 : decode b_Md_isAhead 16 = .ok (.aload_n 0, 1) := by decide +kernel
theorem d_Md_isAhead_17 : decode b_Md_isAhead 17 = .ok (.getfield 30, 3) := by decide +kernel
theorem d_Md_isAhead_20 : decode b_Md_isAhead 20 = .ok (.iload_n 2, 1) := by decide +kernel
theorem d_Md_isAhead_21 : decode b_Md_isAhead 21 = .ok (.iaload, 1) := by decide +kernel
theorem d_Md_isAhead_22 : decode b_Md_isAhead 22 = .ok (.iaload, 1) := by decide +kernel
theorem d_Md_isAhead_23 : decode b_Md_isAhead 23 = .ok (.i2l, 1) := by decide +kernel
theorem d_Md_isAhead_24 : decode b_Md_isAhead 24 = .ok (.lmul, 1) := by decide +kernel
theorem d_Md_isAhead_25 : decode b_Md_isAhead 25 = .ok (.lstore_n 3, 1) := by decide +kernel
theorem d_Md_isAhead_26 : decode b_Md_isAhead 26 = .ok (.aload_n 0, 1) := by decide +kernel
theorem d_Md_isAhead_27 : decode b_Md_isAhead 27 = .ok (.getfield 27, 3) := by decide +kernel
theorem d_Md_isAhead_30 : decode b_Md_isAhead 30 = .ok (.aload_n 0, 1) := by decide +kernel
theorem d_Md_isAhead_31 : decode b_Md_isAhead 31 = .ok (.getfield 30, 3) := by decide +kernel
theorem d_Md_isAhead_34 : decode b_Md_isAhead 34 = .ok (.iload_n 2, 1) := by decide +kernel
theorem d_Md_isAhead_35 : decode b_Md_isAhead 35 = .ok (.iaload, 1) := by decide +kernel
theorem d_Md_isAhead_36 : decode b_Md_isAhead 36 = .ok (.iaload, 1) := by decide +kernel
theorem d_Md_isAhead_37 : decode b_Md_isAhead 37 = .ok (.i2l, 1) := by decide +kernel
theorem d_Md_isAhead_38 : decode b_Md_isAhead 38 = .ok (.aload_n 0, 1) := by decide +kernel
theorem d_Md_isAhead_39 : decode b_Md_isAhead 39 = .ok (.getfield 24, 3) := by decide +kernel
theorem d_Md_isAhead_42 : decode b_Md_isAhead 42 = .ok (.aload_n 0, 1) := by decide +kernel
theorem d_Md_isAhead_43 : decode b_Md_isAhead 43 = .ok (.getfield 30, 3) := by decide +kernel
theorem d_Md_isAhead_46 : decode b_Md_isAhead 46 = .ok (.iload_n 1, 1) := by decide +kernel
theorem d_Md_isAhead_47 : decode b_Md_isAhead 47 = .ok (.iaload, 1) := by decide +kernel
theorem d_Md_isAhead_48 : decode b_Md_isAhead 48 = .ok (.iaload, 1) := by decide +kernel
theorem d_Md_isAhead_49 : decode b_Md_isAhead 49 = .ok (.i2l, 1) := by decide +kernel
theorem d_Md_isAhead_50 : decode b_Md_isAhead 50 = .ok (.lmul, 1) := by decide +kernel
theorem d_Md_isAhead_51 : decode b_Md_isAhead 51 = .ok (.lstore 5, 2) := by decide +kernel
theorem d_Md_isAhead_53 : decode b_Md_isAhead 53 = .ok (.lload_n 3, 1) := by decide +kernel
theorem d_Md_isAhead_54 : decode b_Md_isAhead 54 = .ok (.lload 5, 2) := by decide +kernel
theorem d_Md_isAhead_56 : decode b_Md_isAhead 56 = .ok (.lcmp, 1) := by decide +kernel
theorem d_Md_isAhead_57 : decode b_Md_isAhead 57 = .ok (.ifCond .lt (15), 3) := by decide +kernel
theorem d_Md_isAhead_60 : decode b_Md_isAhead 60 = .ok (.lload_n 3, 1) := by decide +kernel
theorem d_Md_isAhead_61 : decode b_Md_isAhead 61 = .ok (.lload 5, 2) := by decide +kernel
theorem d_Md_isAhead_63 : decode b_Md_isAhead 63 = .ok (.lcmp, 1) := by decide +kernel
theorem d_Md_isAhead_64 : decode b_Md_isAhead 64 = .ok (.ifCond .ne (12), 3) := by decide +kernel
theorem d_Md_isAhead_67 : decode b_Md_isAhead 67 = .ok (.iload_n 1, 1) := by decide +kernel
theorem d_Md_isAhead_68 : decode b_Md_isAhead 68 = .ok (.iload_n 2, 1) := by decide +kernel
theorem d_Md_isAhead_69 : decode b_Md_isAhead 69 = .ok (.if_icmp .ge (7), 3) := by decide +kernel
theorem d_Md_isAhead_72 : decode b_Md_isAhead 72 = .ok (.iconst 1, 1) := by decide +kernel
theorem d_Md_isAhead_73 : decode b_Md_isAhead 73 = .ok (.goto (4), 3) := by decide +kernel
theorem d_Md_isAhead_76 : decode b_Md_isAhead 76 = .ok (.iconst 0, 1) := by decide +kernel
theorem d_Md_isAhead_77 : decode b_Md_isAhead 77 = .ok (.ireturn, 1) := by decide +kernel
theorem d_Md_findQueue_0 : decode b_Md_findQueue 0 = .ok (.aload_n 0, 1) := by decide +kernel
theorem d_Md_findQueue_1 : decode b_Md_findQueue 1 = .ok (.iconst 0, 1) := by decide +kernel
theorem d_Md_findQueue_2 : decode b_Md_findQueue 2 = .ok (.putfield 171, 3) := by decide +kernel
theorem d_Md_findQueue_5 : decode b_Md_findQueue 5 = .ok (.iconst 0, 1) := by decide +kernel
theorem d_Md_findQueue_6 : decode b_Md_findQueue 6 = .ok (.istore_n 1, 1) := by decide +kernel
theorem d_Md_findQueue_7 : decode b_Md_findQueue 7 = .ok (.iload_n 1, 1) := by decide +kernel
theorem d_Md_findQueue_8 : decode b_Md_findQueue 8 = .ok (.aload_n 0, 1) := by decide +kernel
theorem d_Md_findQueue_9 : decode b_Md_findQueue 9 = .ok (.getfield 124, 3) := by decide +kernel
theorem d_Md_findQueue_12 : decode b_Md_findQueue 12 = .ok (.if_icmp .ge (105), 3) := by decide +kernel
theorem d_Md_findQueue_15 : decode b_Md_findQueue 15 = .ok (.aload_n 0, 1) := by decide +kernel
theorem d_Md_findQueue_16 : decode b_Md_findQueue 16 = .ok (.getfield 51, 3) := by decide +kernel
theorem d_Md_findQueue_19 : decode b_Md_findQueue 19 = .ok (.iload_n 1, 1) := by decide +kernel
theorem d_Md_findQueue_20 : decode b_Md_findQueue 20 = .ok (.iaload, 1) := by decide +kernel
theorem d_Md_findQueue_21 : decode b_Md_findQueue 21 = .ok (.ifCond .ne (90), 3) := by decide +kernel
theorem d_Md_findQueue_24 : decode b_Md_findQueue 24 = .ok (.aload_n 0, 1) := by decide +kernel
theorem d_Md_findQueue_25 : decode b_Md_findQueue 25 = .ok (.getfield 48, 3) := by decide +kernel
theorem d_Md_findQueue_28 : decode b_Md_findQueue 28 = .ok (.iload_n 1, 1) := by decide +kernel
theorem d_Md_findQueue_29 : decode b_Md_findQueue 29 = .ok (.iaload, 1) := by decide +kernel
theorem d_Md_findQueue_30 : decode b_Md_findQueue 30 = .ok (.iconst (-1), 1) := by decide +kernel
theorem d_Md_findQueue_31 : decode b_Md_findQueue 31 = .ok (.if_icmp .eq (18), 3) := by decide +kernel
theorem d_Md_findQueue_34 : decode b_Md_findQueue 34 = .ok (.aload_n 0, 1) := by decide +kernel
theorem d_Md_findQueue_35 : decode b_Md_findQueue 35 = .ok (.getfield 51, 3) := by decide +kernel
theorem d_Md_findQueue_38 : decode b_Md_findQueue 38 = .ok (.aload_n 0, 1) := by decide +kernel
theorem d_Md_findQueue_39 : decode b_Md_findQueue 39 = .ok (.getfield 48, 3) := by decide +kernel
theorem d_Md_findQueue_42 : decode b_Md_findQueue 42 = .ok (.iload_n 1, 1) := by decide +kernel
theorem d_Md_findQueue_43 : decode b_Md_findQueue 43 = .ok (.iaload, 1) := by decide +kernel
theorem d_Md_findQueue_44 : decode b_Md_findQueue 44 = .ok (.iaload, 1) := by decide +kernel
theorem d_Md_findQueue_45 : decode b_Md_findQueue 45 = .ok (.iconst 2, 1) := by decide +kernel
theorem d_Md_findQueue_46 : decode b_Md_findQueue 46 = .ok (.if_icmp .ne (65), 3) := by decide +kernel
theorem d_Md_findQueue_49 : decode b_Md_findQueue 49 = .ok (.aload_n 0, 1) := by decide +kernel
theorem d_Md_findQueue_50 : decode b_Md_findQueue 50 = .ok (.getfield 171, 3) := by decide +kernel
theorem d_Md_findQueue_53 : decode b_Md_findQueue 53 = .ok (.istore_n 2, 1) := by decide +kernel
theorem d_Md_findQueue_54 : decode b_Md_findQueue 54 = .ok (.iload_n 2, 1) := by decide +kernel
theorem d_Md_findQueue_55 : decode b_Md_findQueue 55 = .ok (.ifCond .le (39), 3) := by decide +kernel
theorem d_Md_findQueue_58 : decode b_Md_findQueue 58 = .ok (.aload_n 0, 1) := by decide +kernel
theorem d_Md_findQueue_59 : decode b_Md_findQueue 59 = .ok (.iload_n 1, 1) := by decide +kernel
theorem d_Md_findQueue_60 : decode b_Md_findQueue 60 = .ok (.aload_n 0, 1) := by decide +kernel
theorem d_Md_findQueue_61 : decode b_Md_findQueue 61 = .ok (.getfield 93, 3) := by decide +kernel
theorem d_Md_findQueue_64 : decode b_Md_findQueue 64 = .ok (.iload_n 2, 1) := by decide +kernel
theorem d_Md_findQueue_65 : decode b_Md_findQueue 65 = .ok (.iconst 1, 1) := by decide +kernel
theorem d_Md_findQueue_66 : decode b_Md_findQueue 66 = .ok (.isub, 1) := by decide +kernel
theorem d_Md_findQueue_67 : decode b_Md_findQueue 67 = .ok (.iaload, 1) := by decide +kernel
theorem d_Md_findQueue_68 : decode b_Md_findQueue 68 = .ok (.invokevirtual 174, 3) := by decide +kernel
theorem d_Md_findQueue_71 : decode b_Md_findQueue 71 = .ok (.ifCond .eq (23), 3) := by decide +kernel
theorem d_Md_findQueue_74 : decode b_Md_findQueue 74 = .ok (.aload_n 0, 1) := by decide +kernel
theorem d_Md_findQueue_75 : decode b_Md_findQueue 75 = .ok (.getfield 93, 3) := by decide +kernel
theorem d_Md_findQueue_78 : decode b_Md_findQueue 78 = .ok (.iload_n 2, 1) := by decide +kernel
theorem d_Md_findQueue_79 : decode b_Md_findQueue 79 = .ok (.aload_n 0, 1) := by decide +kernel
theorem d_Md_findQueue_80 : decode b_Md_findQueue 80 = .ok (.getfield 93, 3) := by decide +kernel
theorem d_Md_findQueue_83 : decode b_Md_findQueue 83 = .ok (.iload_n 2, 1) := by decide +kernel
theorem d_Md_findQueue_84 : decode b_Md_findQueue 84 = .ok (.iconst 1, 1) := by decide +kernel
theorem d_Md_findQueue_85 : decode b_Md_findQueue 85 = .ok (.isub, 1) := by decide +kernel
theorem d_Md_findQueue_86 : decode b_Md_findQueue 86 = .ok (.iaload, 1) := by decide +kernel
theorem d_Md_findQueue_87 : decode b_Md_findQueue 87 = .ok (.iastore, 1) := by decide +kernel
theorem d_Md_findQueue_88 : decode b_Md_findQueue 88 = .ok (.iinc 2 (-1), 3) := by decide +kernel
theorem d_Md_findQueue_91 : decode b_Md_findQueue 91 = .ok (.goto (-37), 3) := by decide +kernel
theorem d_Md_findQueue_94 : decode b_Md_findQueue 94 = .ok (.aload_n 0, 1) := by decide +kernel
theorem d_Md_findQueue_95 : decode b_Md_findQueue 95 = .ok (.getfield 93, 3) := by decide +kernel
theorem d_Md_findQueue_98 : decode b_Md_findQueue 98 = .ok (.iload_n 2, 1) := by decide +kernel
theorem d_Md_findQueue_99 : decode b_Md_findQueue 99 = .ok (.iload_n 1, 1) := by decide +kernel
theorem d_Md_findQueue_100 : decode b_Md_findQueue 100 = .ok (.iastore, 1) := by decide +kernel
theorem d_Md_findQueue_101 : decode b_Md_findQueue 101 = .ok (.aload_n 0, 1) := by decide +kernel
theorem d_Md_findQueue_102 : decode b_Md_findQueue 102 = .ok (.dup, 1) := by decide +kernel
theorem d_Md_findQueue_103 : decode b_Md_findQueue 103 = .ok (.getfield 171, 3) := by decide +kernel
theorem d_Md_findQueue_106 : decode b_Md_findQueue 106 = .ok (.iconst 1, 1) := by decide +kernel
theorem d_Md_findQueue_107 : decode b_Md_findQueue 107 = .ok (.iadd, 1) := by decide +kernel
theorem d_Md_findQueue_108 : decode b_Md_findQueue 108 = .ok (.putfield 171, 3) := by decide +kernel
theorem d_Md_findQueue_111 : decode b_Md_findQueue 111 = .ok (.iinc 1 (1), 3) := by decide +kernel
theorem d_Md_findQueue_114 : decode b_Md_findQueue 114 = .ok (.goto (-107), 3) := by decide +kernel
theorem d_Md_findQueue_117 : decode b_Md_findQueue 117 = .ok (.return_, 1) := by decide +kernel
theorem d_Md_tick_0 : decode b_Md_tick 0 = .ok (.aload_n 0, 1) := by decide +kernel
theorem d_Md_tick_1 : decode b_Md_tick 1 = .ok (.invokevirtual 177, 3) := by decide +kernel
theorem d_Md_tick_4 : decode b_Md_tick 4 = .ok (.aload_n 0, 1) := by decide +kernel
theorem d_Md_tick_5 : decode b_Md_tick 5 = .ok (.invokevirtual 180, 3) := by decide +kernel
theorem d_Md_tick_8 : decode b_Md_tick 8 = .ok (.aload_n 0, 1) := by decide +kernel
theorem d_Md_tick_9 : decode b_Md_tick 9 = .ok (.iconst (-1), 1) := by decide +kernel
theorem d_Md_tick_10 : decode b_Md_tick 10 = .ok (.putfield 81, 3) := by decide +kernel
theorem d_Md_tick_13 : decode b_Md_tick 13 = .ok (.aload_n 0, 1) := by decide +kernel
theorem d_Md_tick_14 : decode b_Md_tick 14 = .ok (.iconst (-1), 1) := by decide +kernel
theorem d_Md_tick_15 : decode b_Md_tick 15 = .ok (.putfield 84, 3) := by decide +kernel
theorem d_Md_tick_18 : decode b_Md_tick 18 = .ok (.iconst 0, 1) := by decide +kernel
theorem d_Md_tick_19 : decode b_Md_tick 19 = .ok (.istore_n 1, 1) := by decide +kernel
theorem d_Md_tick_20 : decode b_Md_tick 20 = .ok (.iload_n 1, 1) := by decide +kernel
theorem d_Md_tick_21 : decode b_Md_tick 21 = .ok (.aload_n 0, 1) := by decide +kernel
theorem d_Md_tick_22 : decode b_Md_tick 22 = .ok (.getfield 171, 3) := by decide +kernel
theorem d_Md_tick_25 : decode b_Md_tick 25 = .ok (.if_icmp .ge (125), 3) := by decide +kernel
theorem d_Md_tick_28 : decode b_Md_tick 28 = .ok (.aload_n 0, 1) := by decide +kernel
theorem d_Md_tick_29 : decode b_Md_tick 29 = .ok (.getfield 93, 3) := by decide +kernel
theorem d_Md_tick_32 : decode b_Md_tick 32 = .ok (.iload_n 1, 1) := by decide +kernel
theorem d_Md_tick_33 : decode b_Md_tick 33 = .ok (.iaload, 1) := by decide +kernel
theorem d_Md_tick_34 : decode b_Md_tick 34 = .ok (.istore_n 2, 1) := by decide +kernel
theorem d_Md_tick_35 : decode b_Md_tick 35 = .ok (.aload_n 0, 1) := by decide +kernel
theorem d_Md_tick_36 : decode b_Md_tick 36 = .ok (.iload_n 2, 1) := by decide +kernel
theorem d_Md_tick_37 : decode b_Md_tick 37 = .ok (.aload_n 0, 1) := by decide +kernel
theorem d_Md_tick_38 : decode b_Md_tick 38 = .ok (.getfield 148, 3) := by decide +kernel
theorem d_Md_tick_41 : decode b_Md_tick 41 = .ok (.aload_n 0, 1) := by decide +kernel
theorem d_Md_tick_42 : decode b_Md_tick 42 = .ok (.getfield 81, 3) := by decide +kernel
theorem d_Md_tick_45 : decode b_Md_tick 45 = .ok (.iconst (-1), 1) := by decide +kernel
theorem d_Md_tick_46 : decode b_Md_tick 46 = .ok (.if_icmp .eq (7), 3) := by decide +kernel
theorem d_Md_tick_49 : decode b_Md_tick 49 = .ok (.iconst 1, 1) := by decide +kernel
theorem d_Md_tick_50 : decode b_Md_tick 50 = .ok (.goto (4), 3) := by decide +kernel
theorem d_Md_tick_53 : decode b_Md_tick 53 = .ok (.iconst 0, 1) := by decide +kernel
theorem d_Md_tick_54 : decode b_Md_tick 54 = .ok (.invokevirtual 183, 3) := by decide +kernel
theorem d_Md_tick_57 : decode b_Md_tick 57 = .ok (.ifCond .eq (11), 3) := by decide +kernel
theorem d_Md_tick_60 : decode b_Md_tick 60 = .ok (.aload_n 0, 1) := by decide +kernel
theorem d_Md_tick_61 : decode b_Md_tick 61 = .ok (.iload_n 2, 1) := by decide +kernel
theorem d_Md_tick_62 : decode b_Md_tick 62 = .ok (.invokevirtual 187, 3) := by decide +kernel
theorem d_Md_tick_65 : decode b_Md_tick 65 = .ok (.goto (79), 3) := by decide +kernel
theorem d_Md_tick_68 : decode b_Md_tick 68 = .ok (.aload_n 0, 1) := by decide +kernel
theorem d_Md_tick_69 : decode b_Md_tick 69 = .ok (.getfield 81, 3) := by decide +kernel
theorem d_Md_tick_72 : decode b_Md_tick 72 = .ok (.iconst (-1), 1) := by decide +kernel
theorem d_Md_tick_73 : decode b_Md_tick 73 = .ok (.if_icmp .ne (71), 3) := by decide +kernel
theorem d_Md_tick_76 : decode b_Md_tick 76 = .ok (.aload_n 0, 1) := by decide +kernel
theorem d_Md_tick_77 : decode b_Md_tick 77 = .ok (.iload_n 2, 1) := by decide +kernel
theorem d_Md_tick_78 : decode b_Md_tick 78 = .ok (.putfield 81, 3) := by decide +kernel
theorem d_Md_tick_81 : decode b_Md_tick 81 = .ok (.aload_n 0, 1) := by decide +kernel
theorem d_Md_tick_82 : decode b_Md_tick 82 = .ok (.aload_n 0, 1) := by decide +kernel
theorem d_Md_tick_83 : decode b_Md_tick 83 = .ok (.iload_n 2, 1) := by decide +kernel
theorem d_Md_tick_84 : decode b_Md_tick 84 = .ok (.invokevirtual 159, 3) := by decide +kernel
theorem d_Md_tick_87 : decode b_Md_tick 87 = .ok (.putfield 162, 3) := by decide +kernel
theorem d_Md_tick_90 : decode b_Md_tick 90 = .ok (.aload_n 0, 1) := by decide +kernel
theorem d_Md_tick_91 : decode b_Md_tick 91 = .ok (.getfield 148, 3) := by decide +kernel
theorem d_Md_tick_94 : decode b_Md_tick 94 = .ok (.istore_n 3, 1) := by decide +kernel
theorem d_Md_tick_95 : decode b_Md_tick 95 = .ok (.iload_n 3, 1) := by decide +kernel
theorem d_Md_tick_96 : decode b_Md_tick 96 = .ok (.aload_n 0, 1) := by decide +kernel
theorem d_Md_tick_97 : decode b_Md_tick 97 = .ok (.getfield 148, 3) := by decide +kernel
theorem d_Md_tick_100 : decode b_Md_tick 100 = .ok (.sipush (200), 3) := by decide +kernel
theorem d_Md_tick_103 : decode b_Md_tick 103 = .ok (.iadd, 1) := by decide +kernel
theorem d_Md_tick_104 : decode b_Md_tick 104 = .ok (.if_icmp .gt (19), 3) := by decide +kernel
theorem d_Md_tick_107 : decode b_Md_tick 107 = .ok (.aload_n 0, 1) := by decide +kernel
theorem d_Md_tick_108 : decode b_Md_tick 108 = .ok (.iload_n 2, 1) := by decide +kernel
theorem d_Md_tick_109 : decode b_Md_tick 109 = .ok (.iload_n 3, 1) := by decide +kernel
theorem d_Md_tick_110 : decode b_Md_tick 110 = .ok (.iconst 0, 1) := by decide +kernel
theorem d_Md_tick_111 : decode b_Md_tick 111 = .ok (.invokevirtual 183, 3) := by decide +kernel
theorem d_Md_tick_114 : decode b_Md_tick 114 = .ok (.ifCond .ne (9), 3) := by decide +kernel
theorem d_Md_tick_117 : decode b_Md_tick 117 = .ok (.iinc 3 (1), 3) := by decide +kernel
theorem d_Md_tick_120 : decode b_Md_tick 120 = .ok (.goto (-25), 3) := by decide +kernel
theorem d_Md_tick_123 : decode b_Md_tick 123 = .ok (.aload_n 0, 1) := by decide +kernel
theorem d_Md_tick_124 : decode b_Md_tick 124 = .ok (.iload_n 3, 1) := by decide +kernel
theorem d_Md_tick_125 : decode b_Md_tick 125 = .ok (.aload_n 0, 1) := by decide +kernel
theorem d_Md_tick_126 : decode b_Md_tick 126 = .ok (.getfield 148, 3) := by decide +kernel
theorem d_Md_tick_129 : decode b_Md_tick 129 = .ok (.sipush (200), 3) := by decide +kernel
theorem d_Md_tick_132 : decode b_Md_tick 132 = .ok (.iadd, 1) := by decide +kernel
theorem d_Md_tick_133 : decode b_Md_tick 133 = .ok (.if_icmp .gt (7), 3) := by decide +kernel
theorem d_Md_tick_136 : decode b_Md_tick 136 = .ok (.iload_n 3, 1) := by decide +kernel
theorem d_Md_tick_137 : decode b_Md_tick 137 = .ok (.goto (4), 3) := by decide +kernel
theorem d_Md_tick_140 : decode b_Md_tick 140 = .ok (.iconst (-1), 1) := by decide +kernel
theorem d_Md_tick_141 : decode b_Md_tick 141 = .ok (.putfield 84, 3) := by decide +kernel
theorem d_Md_tick_144 : decode b_Md_tick 144 = .ok (.iinc 1 (1), 3) := by decide +kernel
theorem d_Md_tick_147 : decode b_Md_tick 147 = .ok (.goto (-127), 3) := by decide +kernel
theorem d_Md_tick_150 : decode b_Md_tick 150 = .ok (.iconst 0, 1) := by decide +kernel
theorem d_Md_tick_151 : decode b_Md_tick 151 = .ok (.istore_n 1, 1) := by decide +kernel
theorem d_Md_tick_152 : decode b_Md_tick 152 = .ok (.iload_n 1, 1) := by decide +kernel
theorem d_Md_tick_153 : decode b_Md_tick 153 = .ok (.aload_n 0, 1) := by decide +kernel
theorem d_Md_tick_154 : decode b_Md_tick 154 = .ok (.getfield 124, 3) := by decide +kernel
theorem d_Md_tick_157 : decode b_Md_tick 157 = .ok (.if_icmp .ge (111), 3) := by decide +kernel
theorem d_Md_tick_160 : decode b_Md_tick 160 = .ok (.aload_n 0, 1) := by decide +kernel
theorem d_Md_tick_161 : decode b_Md_tick 161 = .ok (.getfield 51, 3) := by decide +kernel
theorem d_Md_tick_164 : decode b_Md_tick 164 = .ok (.iload_n 1, 1) := by decide +kernel
theorem d_Md_tick_165 : decode b_Md_tick 165 = .ok (.iaload, 1) := by decide +kernel
theorem d_Md_tick_166 : decode b_Md_tick 166 = .ok (.iconst 1, 1) := by decide +kernel
theorem d_Md_tick_167 : decode b_Md_tick 167 = .ok (.if_icmp .ne (95), 3) := by decide +kernel
theorem d_Md_tick_170 : decode b_Md_tick 170 = .ok (.aload_n 0, 1) := by decide +kernel
theorem d_Md_tick_171 : decode b_Md_tick 171 = .ok (.getfield 63, 3) := by decide +kernel
theorem d_Md_tick_174 : decode b_Md_tick 174 = .ok (.iload_n 1, 1) := by decide +kernel
theorem d_Md_tick_175 : decode b_Md_tick 175 = .ok (.dup2, 1) := by decide +kernel
theorem d_Md_tick_176 : decode b_Md_tick 176 = .ok (.iaload, 1) := by decide +kernel
theorem d_Md_tick_177 : decode b_Md_tick 177 = .ok (.iconst 1, 1) := by decide +kernel
theorem d_Md_tick_178 : decode b_Md_tick 178 = .ok (.iadd, 1) := by decide +kernel
theorem d_Md_tick_179 : decode b_Md_tick 179 = .ok (.iastore, 1) := by decide +kernel
theorem d_Md_tick_180 : decode b_Md_tick 180 = .ok (.aload_n 0, 1) := by decide +kernel
theorem d_Md_tick_181 : decode b_Md_tick 181 = .ok (.getfield 27, 3) := by decide +kernel
theorem d_Md_tick_184 : decode b_Md_tick 184 = .ok (.aload_n 0, 1) := by decide +kernel
theorem d_Md_tick_185 : decode b_Md_tick 185 = .ok (.getfield 30, 3) := by decide +kernel
theorem d_Md_tick_188 : decode b_Md_tick 188 = .ok (.iload_n 1, 1) := by decide +kernel
theorem d_Md_tick_189 : decode b_Md_tick 189 = .ok (.iaload, 1) := by decide +kernel
theorem d_Md_tick_190 : decode b_Md_tick 190 = .ok (.dup2, 1) := by decide +kernel
theorem d_Md_tick_191 : decode b_Md_tick 191 = .ok (.iaload, 1) := by decide +kernel
theorem d_Md_tick_192 : decode b_Md_tick 192 = .ok (.aload_n 0, 1) := by decide +kernel
theorem d_Md_tick_193 : decode b_Md_tick 193 = .ok (.getfield 33, 3) := by decide +kernel
theorem d_Md_tick_196 : decode b_Md_tick 196 = .ok (.iload_n 1, 1) := by decide +kernel
theorem d_Md_tick_197 : decode b_Md_tick 197 = .ok (.iaload, 1) := by decide +kernel
theorem d_Md_tick_198 : decode b_Md_tick 198 = .ok (.iadd, 1) := by decide +kernel
theorem d_Md_tick_199 : decode b_Md_tick 199 = .ok (.iastore, 1) := by decide +kernel
theorem d_Md_tick_200 : decode b_Md_tick 200 = .ok (.aload_n 0, 1) := by decide +kernel
theorem d_Md_tick_201 : decode b_Md_tick 201 = .ok (.getfield 63, 3) := by decide +kernel
theorem d_Md_tick_204 : decode b_Md_tick 204 = .ok (.iload_n 1, 1) := by decide +kernel
theorem d_Md_tick_205 : decode b_Md_tick 205 = .ok (.iaload, 1) := by decide +kernel
theorem d_Md_tick_206 : decode b_Md_tick 206 = .ok (.aload_n 0, 1) := by decide +kernel
theorem d_Md_tick_207 : decode b_Md_tick 207 = .ok (.getfield 190, 3) := by decide +kernel
theorem d_Md_tick_210 : decode b_Md_tick 210 = .ok (.ifCond .eq (12), 3) := by decide +kernel
theorem d_Md_tick_213 : decode b_Md_tick 213 = .ok (.aload_n 0, 1) := by decide +kernel
theorem d_Md_tick_214 : decode b_Md_tick 214 = .ok (.getfield 66, 3) := by decide +kernel
theorem d_Md_tick_217 : decode b_Md_tick 217 = .ok (.iload_n 1, 1) := by decide +kernel
theorem d_Md_tick_218 : decode b_Md_tick 218 = .ok (.iaload, 1) := by decide +kernel
theorem d_Md_tick_219 : decode b_Md_tick 219 = .ok (.goto (16), 3) := by decide +kernel
theorem d_Md_tick_222 : decode b_Md_tick 222 = .ok (.aload_n 0, 1) := by decide +kernel
theorem d_Md_tick_223 : decode b_Md_tick 223 = .ok (.getfield 42, 3) := by decide +kernel
theorem d_Md_tick_226 : decode b_Md_tick 226 = .ok (.iload_n 1, 1) := by decide +kernel
theorem d_Md_tick_227 : decode b_Md_tick 227 = .ok (.iaload, 1) := by decide +kernel
theorem d_Md_tick_228 : decode b_Md_tick 228 = .ok (.aload_n 0, 1) := by decide +kernel
theorem d_Md_tick_229 : decode b_Md_tick 229 = .ok (.getfield 60, 3) := by decide +kernel
theorem d_Md_tick_232 : decode b_Md_tick 232 = .ok (.iload_n 1, 1) := by decide +kernel
theorem d_Md_tick_233 : decode b_Md_tick 233 = .ok (.iaload, 1) := by decide +kernel
theorem d_Md_tick_234 : decode b_Md_tick 234 = .ok (.isub, 1) := by decide +kernel
theorem d_Md_tick_235 : decode b_Md_tick 235 = .ok (.if_icmp .ne (27), 3) := by decide +kernel
theorem d_Md_tick_238 : decode b_Md_tick 238 = .ok (.aload_n 0, 1) := by decide +kernel
theorem d_Md_tick_239 : decode b_Md_tick 239 = .ok (.getfield 51, 3) := by decide +kernel
theorem d_Md_tick_242 : decode b_Md_tick 242 = .ok (.iload_n 1, 1) := by decide +kernel
theorem d_Md_tick_243 : decode b_Md_tick 243 = .ok (.iconst 2, 1) := by decide +kernel
theorem d_Md_tick_244 : decode b_Md_tick 244 = .ok (.iastore, 1) := by decide +kernel
theorem d_Md_tick_245 : decode b_Md_tick 245 = .ok (.aload_n 0, 1) := by decide +kernel
theorem d_Md_tick_246 : decode b_Md_tick 246 = .ok (.getfield 57, 3) := by decide +kernel
theorem d_Md_tick_249 : decode b_Md_tick 249 = .ok (.iload_n 1, 1) := by decide +kernel
theorem d_Md_tick_250 : decode b_Md_tick 250 = .ok (.aload_n 0, 1) := by decide +kernel
theorem d_Md_tick_251 : decode b_Md_tick 251 = .ok (.getfield 148, 3) := by decide +kernel
theorem d_Md_tick_254 : decode b_Md_tick 254 = .ok (.iconst 1, 1) := by decide +kernel
theorem d_Md_tick_255 : decode b_Md_tick 255 = .ok (.iadd, 1) := by decide +kernel
theorem d_Md_tick_256 : decode b_Md_tick 256 = .ok (.iastore, 1) := by decide +kernel
theorem d_Md_tick_257 : decode b_Md_tick 257 = .ok (.aload_n 0, 1) := by decide +kernel
theorem d_Md_tick_258 : decode b_Md_tick 258 = .ok (.iload_n 1, 1) := by decide +kernel
theorem d_Md_tick_259 : decode b_Md_tick 259 = .ok (.invokevirtual 131, 3) := by decide +kernel
theorem d_Md_tick_262 : decode b_Md_tick 262 = .ok (.iinc 1 (1), 3) := by decide +kernel
theorem d_Md_tick_265 : decode b_Md_tick 265 = .ok (.goto (-113), 3) := by decide +kernel
theorem d_Md_tick_268 : decode b_Md_tick 268 = .ok (.aload_n 0, 1) := by decide +kernel
theorem d_Md_tick_269 : decode b_Md_tick 269 = .ok (.dup, 1) := by decide +kernel
theorem d_Md_tick_270 : decode b_Md_tick 270 = .ok (.getfield 148, 3) := by decide +kernel
theorem d_Md_tick_273 : decode b_Md_tick 273 = .ok (.iconst 1, 1) := by decide +kernel
theorem d_Md_tick_274 : decode b_Md_tick 274 = .ok (.iadd, 1) := by decide +kernel
theorem d_Md_tick_275 : decode b_Md_tick 275 = .ok (.putfield 148, 3) := by decide +kernel
theorem d_Md_tick_278 : decode b_Md_tick 278 = .ok (.iconst 0, 1) := by decide +kernel
theorem d_Md_tick_279 : decode b_Md_tick 279 = .ok (.istore_n 1, 1) := by decide +kernel
theorem d_Md_tick_280 : decode b_Md_tick 280 = .ok (.iload_n 1, 1) := by decide +kernel
theorem d_Md_tick_281 : decode b_Md_tick 281 = .ok (.aload_n 0, 1) := by decide +kernel
theorem d_Md_tick_282 : decode b_Md_tick 282 = .ok (.getfield 135, 3) := by decide +kernel
theorem d_Md_tick_285 : decode b_Md_tick 285 = .ok (.if_icmp .ge (35), 3) := by decide +kernel
theorem d_Md_tick_288 : decode b_Md_tick 288 = .ok (.aload_n 0, 1) := by decide +kernel
theorem d_Md_tick_289 : decode b_Md_tick 289 = .ok (.getfield 148, 3) := by decide +kernel
theorem d_Md_tick_292 : decode b_Md_tick 292 = .ok (.aload_n 0, 1) := by decide +kernel
theorem d_Md_tick_293 : decode b_Md_tick 293 = .ok (.getfield 7, 3) := by decide +kernel
theorem d_Md_tick_296 : decode b_Md_tick 296 = .ok (.irem, 1) := by decide +kernel
theorem d_Md_tick_297 : decode b_Md_tick 297 = .ok (.ifCond .ne (23), 3) := by decide +kernel
theorem d_Md_tick_300 : decode b_Md_tick 300 = .ok (.aload_n 0, 1) := by decide +kernel
theorem d_Md_tick_301 : decode b_Md_tick 301 = .ok (.getfield 27, 3) := by decide +kernel
theorem d_Md_tick_304 : decode b_Md_tick 304 = .ok (.iload_n 1, 1) := by decide +kernel
theorem d_Md_tick_305 : decode b_Md_tick 305 = .ok (.aload_n 0, 1) := by decide +kernel
theorem d_Md_tick_306 : decode b_Md_tick 306 = .ok (.getfield 27, 3) := by decide +kernel
theorem d_Md_tick_309 : decode b_Md_tick 309 = .ok (.iload_n 1, 1) := by decide +kernel
theorem d_Md_tick_310 : decode b_Md_tick 310 = .ok (.iaload, 1) := by decide +kernel
theorem d_Md_tick_311 : decode b_Md_tick 311 = .ok (.iconst 2, 1) := by decide +kernel
theorem d_Md_tick_312 : decode b_Md_tick 312 = .ok (.idiv, 1) := by decide +kernel
theorem d_Md_tick_313 : decode b_Md_tick 313 = .ok (.iastore, 1) := by decide +kernel
theorem d_Md_tick_314 : decode b_Md_tick 314 = .ok (.iinc 1 (1), 3) := by decide +kernel
theorem d_Md_tick_317 : decode b_Md_tick 317 = .ok (.goto (-37), 3) := by decide +kernel
theorem d_Md_tick_320 : decode b_Md_tick 320 = .ok (.return_, 1) := by decide +kernel
theorem d_Md_ticks_0 : decode b_Md_ticks 0 = .ok (.iload_n 1, 1) := by decide +kernel
theorem d_Md_ticks_1 : decode b_Md_ticks 1 = .ok (.iconst 1, 1) := by decide +kernel
theorem d_Md_ticks_2 : decode b_Md_ticks 2 = .ok (.bipush (100), 2) := by decide +kernel
theorem d_Md_ticks_4 : decode b_Md_ticks 4 = .ok (.invokestatic 120, 3) := by decide +kernel
theorem d_Md_ticks_7 : decode b_Md_ticks 7 = .ok (.ifCond .eq (15), 3) := by decide +kernel
theorem d_Md_ticks_10 : decode b_Md_ticks 10 = .ok (.aload_n 0, 1) := by decide +kernel
theorem d_Md_ticks_11 : decode b_Md_ticks 11 = .ok (.getfield 148, 3) := by decide +kernel
theorem d_Md_ticks_14 : decode b_Md_ticks 14 = .ok (.iload_n 1, 1) := by decide +kernel
theorem d_Md_ticks_15 : decode b_Md_ticks 15 = .ok (.iadd, 1) := by decide +kernel
theorem d_Md_ticks_16 : decode b_Md_ticks 16 = .ok (.sipush (2000), 3) := by decide +kernel
theorem d_Md_ticks_19 : decode b_Md_ticks 19 = .ok (.if_icmp .le (6), 3) := by decide +kernel
theorem d_Md_ticks_22 : decode b_Md_ticks 22 = .ok (.bipush (-3), 2) := by decide +kernel
theorem d_Md_ticks_24 : decode b_Md_ticks 24 = .ok (.ireturn, 1) := by decide +kernel
theorem d_Md_ticks_25 : decode b_Md_ticks 25 = .ok (.iconst 0, 1) := by decide +kernel
theorem d_Md_ticks_26 : decode b_Md_ticks 26 = .ok (.istore_n 2, 1) := by decide +kernel
theorem d_Md_ticks_27 : decode b_Md_ticks 27 = .ok (.iload_n 2, 1) := by decide +kernel
theorem d_Md_ticks_28 : decode b_Md_ticks 28 = .ok (.iload_n 1, 1) := by decide +kernel
theorem d_Md_ticks_29 : decode b_Md_ticks 29 = .ok (.if_icmp .ge (13), 3) := by decide +kernel
theorem d_Md_ticks_32 : decode b_Md_ticks 32 = .ok (.aload_n 0, 1) := by decide +kernel
theorem d_Md_ticks_33 : decode b_Md_ticks 33 = .ok (.invokevirtual 194, 3) := by decide +kernel
theorem d_Md_ticks_36 : decode b_Md_ticks 36 = .ok (.iinc 2 (1), 3) := by decide +kernel
theorem d_Md_ticks_39 : decode b_Md_ticks 39 = .ok (.goto (-12), 3) := by decide +kernel
theorem d_Md_ticks_42 : decode b_Md_ticks 42 = .ok (.aload_n 0, 1) := by decide +kernel
theorem d_Md_ticks_43 : decode b_Md_ticks 43 = .ok (.getfield 148, 3) := by decide +kernel
theorem d_Md_ticks_46 : decode b_Md_ticks 46 = .ok (.ireturn, 1) := by decide +kernel
theorem d_Md_told_0 : decode b_Md_told 0 = .ok (.aload_n 0, 1) := by decide +kernel
theorem d_Md_told_1 : decode b_Md_told 1 = .ok (.iload_n 1, 1) := by decide +kernel
theorem d_Md_told_2 : decode b_Md_told 2 = .ok (.invokevirtual 138, 3) := by decide +kernel
theorem d_Md_told_5 : decode b_Md_told 5 = .ok (.ifCond .ne (6), 3) := by decide +kernel
theorem d_Md_told_8 : decode b_Md_told 8 = .ok (.bipush (-2), 2) := by decide +kernel
theorem d_Md_told_10 : decode b_Md_told 10 = .ok (.ireturn, 1) := by decide +kernel
theorem d_Md_told_11 : decode b_Md_told 11 = .ok (.iload_n 2, 1) := by decide +kernel
theorem d_Md_told_12 : decode b_Md_told 12 = .ok (.tableswitch (116) 0 5 #[40, 47, 54, 61, 68, 75], 40) := by decide +kernel
theorem d_Md_told_52 : decode b_Md_told 52 = .ok (.aload_n 0, 1) := by decide +kernel
theorem d_Md_told_53 : decode b_Md_told 53 = .ok (.getfield 51, 3) := by decide +kernel
theorem d_Md_told_56 : decode b_Md_told 56 = .ok (.iload_n 1, 1) := by decide +kernel
theorem d_Md_told_57 : decode b_Md_told 57 = .ok (.iaload, 1) := by decide +kernel
theorem d_Md_told_58 : decode b_Md_told 58 = .ok (.ireturn, 1) := by decide +kernel
theorem d_Md_told_59 : decode b_Md_told 59 = .ok (.aload_n 0, 1) := by decide +kernel
theorem d_Md_told_60 : decode b_Md_told 60 = .ok (.getfield 54, 3) := by decide +kernel
theorem d_Md_told_63 : decode b_Md_told 63 = .ok (.iload_n 1, 1) := by decide +kernel
theorem d_Md_told_64 : decode b_Md_told 64 = .ok (.iaload, 1) := by decide +kernel
theorem d_Md_told_65 : decode b_Md_told 65 = .ok (.ireturn, 1) := by decide +kernel
theorem d_Md_told_66 : decode b_Md_told 66 = .ok (.aload_n 0, 1) := by decide +kernel
theorem d_Md_told_67 : decode b_Md_told 67 = .ok (.getfield 57, 3) := by decide +kernel
theorem d_Md_told_70 : decode b_Md_told 70 = .ok (.iload_n 1, 1) := by decide +kernel
theorem d_Md_told_71 : decode b_Md_told 71 = .ok (.iaload, 1) := by decide +kernel
theorem d_Md_told_72 : decode b_Md_told 72 = .ok (.ireturn, 1) := by decide +kernel
theorem d_Md_told_73 : decode b_Md_told 73 = .ok (.aload_n 0, 1) := by decide +kernel
theorem d_Md_told_74 : decode b_Md_told 74 = .ok (.getfield 60, 3) := by decide +kernel
theorem d_Md_told_77 : decode b_Md_told 77 = .ok (.iload_n 1, 1) := by decide +kernel
theorem d_Md_told_78 : decode b_Md_told 78 = .ok (.iaload, 1) := by decide +kernel
theorem d_Md_told_79 : decode b_Md_told 79 = .ok (.ireturn, 1) := by decide +kernel
theorem d_Md_told_80 : decode b_Md_told 80 = .ok (.aload_n 0, 1) := by decide +kernel
theorem d_Md_told_81 : decode b_Md_told 81 = .ok (.getfield 63, 3) := by decide +kernel
theorem d_Md_told_84 : decode b_Md_told 84 = .ok (.iload_n 1, 1) := by decide +kernel
theorem d_Md_told_85 : decode b_Md_told 85 = .ok (.iaload, 1) := by decide +kernel
theorem d_Md_told_86 : decode b_Md_told 86 = .ok (.ireturn, 1) := by decide +kernel
theorem d_Md_told_87 : decode b_Md_told 87 = .ok (.iconst 0, 1) := by decide +kernel
theorem d_Md_told_88 : decode b_Md_told 88 = .ok (.istore_n 3, 1) := by decide +kernel
theorem d_Md_told_89 : decode b_Md_told 89 = .ok (.iconst 0, 1) := by decide +kernel
theorem d_Md_told_90 : decode b_Md_told 90 = .ok (.istore 4, 2) := by decide +kernel
theorem d_Md_told_92 : decode b_Md_told 92 = .ok (.iload 4, 2) := by decide +kernel
theorem d_Md_told_94 : decode b_Md_told 94 = .ok (.iconst 4, 1) := by decide +kernel
theorem d_Md_told_95 : decode b_Md_told 95 = .ok (.if_icmp .ge (31), 3) := by decide +kernel
theorem d_Md_told_98 : decode b_Md_told 98 = .ok (.iload_n 3, 1) := by decide +kernel
theorem d_Md_told_99 : decode b_Md_told 99 = .ok (.aload_n 0, 1) := by decide +kernel
theorem d_Md_told_100 : decode b_Md_told 100 = .ok (.getfield 69, 3) := by decide +kernel
theorem d_Md_told_103 : decode b_Md_told 103 = .ok (.iconst 4, 1) := by decide +kernel
theorem d_Md_told_104 : decode b_Md_told 104 = .ok (.iload_n 1, 1) := by decide +kernel
theorem d_Md_told_105 : decode b_Md_told 105 = .ok (.imul, 1) := by decide +kernel
theorem d_Md_told_106 : decode b_Md_told 106 = .ok (.iload 4, 2) := by decide +kernel
theorem d_Md_told_108 : decode b_Md_told 108 = .ok (.iadd, 1) := by decide +kernel
theorem d_Md_told_109 : decode b_Md_told 109 = .ok (.iaload, 1) := by decide +kernel
theorem d_Md_told_110 : decode b_Md_told 110 = .ok (.ifCond .le (7), 3) := by decide +kernel
theorem d_Md_told_113 : decode b_Md_told 113 = .ok (.iconst 1, 1) := by decide +kernel
theorem d_Md_told_114 : decode b_Md_told 114 = .ok (.goto (4), 3) := by decide +kernel
theorem d_Md_told_117 : decode b_Md_told 117 = .ok (.iconst 0, 1) := by decide +kernel
theorem d_Md_told_118 : decode b_Md_told 118 = .ok (.iadd, 1) := by decide +kernel
theorem d_Md_told_119 : decode b_Md_told 119 = .ok (.istore_n 3, 1) := by decide +kernel
theorem d_Md_told_120 : decode b_Md_told 120 = .ok (.iinc 4 (1), 3) := by decide +kernel
theorem d_Md_told_123 : decode b_Md_told 123 = .ok (.goto (-31), 3) := by decide +kernel
theorem d_Md_told_126 : decode b_Md_told 126 = .ok (.iload_n 3, 1) := by decide +kernel
theorem d_Md_told_127 : decode b_Md_told 127 = .ok (.ireturn, 1) := by decide +kernel
theorem d_Md_told_128 : decode b_Md_told 128 = .ok (.bipush (-3), 2) := by decide +kernel
theorem d_Md_told_130 : decode b_Md_told 130 = .ok (.ireturn, 1) := by decide +kernel
theorem d_Md_on_0 : decode b_Md_on 0 = .ok (.aload_n 0, 1) := by decide +kernel
theorem d_Md_on_1 : decode b_Md_on 1 = .ok (.iload_n 1, 1) := by decide +kernel
theorem d_Md_on_2 : decode b_Md_on 2 = .ok (.invokevirtual 138, 3) := by decide +kernel
theorem d_Md_on_5 : decode b_Md_on 5 = .ok (.ifCond .eq (24), 3) := by decide +kernel
theorem d_Md_on_8 : decode b_Md_on 8 = .ok (.aload_n 0, 1) := by decide +kernel
theorem d_Md_on_9 : decode b_Md_on 9 = .ok (.iload_n 2, 1) := by decide +kernel
theorem d_Md_on_10 : decode b_Md_on 10 = .ok (.invokevirtual 127, 3) := by decide +kernel
theorem d_Md_on_13 : decode b_Md_on 13 = .ok (.ifCond .eq (16), 3) := by decide +kernel
theorem d_Md_on_16 : decode b_Md_on 16 = .ok (.aload_n 0, 1) := by decide +kernel
theorem d_Md_on_17 : decode b_Md_on 17 = .ok (.getfield 69, 3) := by decide +kernel
theorem d_Md_on_20 : decode b_Md_on 20 = .ok (.iconst 4, 1) := by decide +kernel
theorem d_Md_on_21 : decode b_Md_on 21 = .ok (.iload_n 1, 1) := by decide +kernel
theorem d_Md_on_22 : decode b_Md_on 22 = .ok (.imul, 1) := by decide +kernel
theorem d_Md_on_23 : decode b_Md_on 23 = .ok (.iload_n 2, 1) := by decide +kernel
theorem d_Md_on_24 : decode b_Md_on 24 = .ok (.iadd, 1) := by decide +kernel
theorem d_Md_on_25 : decode b_Md_on 25 = .ok (.iaload, 1) := by decide +kernel
theorem d_Md_on_26 : decode b_Md_on 26 = .ok (.goto (5), 3) := by decide +kernel
theorem d_Md_on_29 : decode b_Md_on 29 = .ok (.bipush (-2), 2) := by decide +kernel
theorem d_Md_on_31 : decode b_Md_on 31 = .ok (.ireturn, 1) := by decide +kernel
theorem d_Md_free_0 : decode b_Md_free 0 = .ok (.aload_n 0, 1) := by decide +kernel
theorem d_Md_free_1 : decode b_Md_free 1 = .ok (.iload_n 1, 1) := by decide +kernel
theorem d_Md_free_2 : decode b_Md_free 2 = .ok (.invokevirtual 127, 3) := by decide +kernel
theorem d_Md_free_5 : decode b_Md_free 5 = .ok (.ifCond .eq (11), 3) := by decide +kernel
theorem d_Md_free_8 : decode b_Md_free 8 = .ok (.aload_n 0, 1) := by decide +kernel
theorem d_Md_free_9 : decode b_Md_free 9 = .ok (.iload_n 1, 1) := by decide +kernel
theorem d_Md_free_10 : decode b_Md_free 10 = .ok (.invokevirtual 168, 3) := by decide +kernel
theorem d_Md_free_13 : decode b_Md_free 13 = .ok (.goto (5), 3) := by decide +kernel
theorem d_Md_free_16 : decode b_Md_free 16 = .ok (.bipush (-2), 2) := by decide +kernel
theorem d_Md_free_18 : decode b_Md_free 18 = .ok (.ireturn, 1) := by decide +kernel
theorem d_Md_used_0 : decode b_Md_used 0 = .ok (.iload_n 1, 1) := by decide +kernel
theorem d_Md_used_1 : decode b_Md_used 1 = .ok (.iconst 0, 1) := by decide +kernel
theorem d_Md_used_2 : decode b_Md_used 2 = .ok (.aload_n 0, 1) := by decide +kernel
theorem d_Md_used_3 : decode b_Md_used 3 = .ok (.getfield 135, 3) := by decide +kernel
theorem d_Md_used_6 : decode b_Md_used 6 = .ok (.iconst 1, 1) := by decide +kernel
theorem d_Md_used_7 : decode b_Md_used 7 = .ok (.isub, 1) := by decide +kernel
theorem d_Md_used_8 : decode b_Md_used 8 = .ok (.invokestatic 120, 3) := by decide +kernel
theorem d_Md_used_11 : decode b_Md_used 11 = .ok (.ifCond .eq (12), 3) := by decide +kernel
theorem d_Md_used_14 : decode b_Md_used 14 = .ok (.aload_n 0, 1) := by decide +kernel
theorem d_Md_used_15 : decode b_Md_used 15 = .ok (.getfield 27, 3) := by decide +kernel
theorem d_Md_used_18 : decode b_Md_used 18 = .ok (.iload_n 1, 1) := by decide +kernel
theorem d_Md_used_19 : decode b_Md_used 19 = .ok (.iaload, 1) := by decide +kernel
theorem d_Md_used_20 : decode b_Md_used 20 = .ok (.goto (5), 3) := by decide +kernel
theorem d_Md_used_23 : decode b_Md_used 23 = .ok (.bipush (-2), 2) := by decide +kernel
theorem d_Md_used_25 : decode b_Md_used 25 = .ok (.ireturn, 1) := by decide +kernel
theorem d_Md_blocked_0 : decode b_Md_blocked 0 = .ok (.iload_n 1, 1) := by decide +kernel
theorem d_Md_blocked_1 : decode b_Md_blocked 1 = .ok (.ifCond .ne (10), 3) := by decide +kernel
theorem d_Md_blocked_4 : decode b_Md_blocked 4 = .ok (.aload_n 0, 1) := by decide +kernel
theorem d_Md_blocked_5 : decode b_Md_blocked 5 = .ok (.getfield 81, 3) := by decide +kernel
theorem d_Md_blocked_8 : decode b_Md_blocked 8 = .ok (.goto (17), 3) := by decide +kernel
theorem d_Md_blocked_11 : decode b_Md_blocked 11 = .ok (.iload_n 1, 1) := by decide +kernel
theorem d_Md_blocked_12 : decode b_Md_blocked 12 = .ok (.iconst 1, 1) := by decide +kernel
theorem d_Md_blocked_13 : decode b_Md_blocked 13 = .ok (.if_icmp .ne (10), 3) := by decide +kernel
theorem d_Md_blocked_16 : decode b_Md_blocked 16 = .ok (.aload_n 0, 1) := by decide +kernel
theorem d_Md_blocked_17 : decode b_Md_blocked 17 = .ok (.getfield 84, 3) := by decide +kernel
theorem d_Md_blocked_20 : decode b_Md_blocked 20 = .ok (.goto (5), 3) := by decide +kernel
theorem d_Md_blocked_23 : decode b_Md_blocked 23 = .ok (.bipush (-3), 2) := by decide +kernel
theorem d_Md_blocked_25 : decode b_Md_blocked 25 = .ok (.ireturn, 1) := by decide +kernel
theorem d_Md_taken_0 : decode b_Md_taken 0 = .ok (.iload_n 1, 1) := by decide +kernel
theorem d_Md_taken_1 : decode b_Md_taken 1 = .ok (.iconst 0, 1) := by decide +kernel
theorem d_Md_taken_2 : decode b_Md_taken 2 = .ok (.iconst 1, 1) := by decide +kernel
theorem d_Md_taken_3 : decode b_Md_taken 3 = .ok (.invokestatic 120, 3) := by decide +kernel
theorem d_Md_taken_6 : decode b_Md_taken 6 = .ok (.ifCond .eq (22), 3) := by decide +kernel
theorem d_Md_taken_9 : decode b_Md_taken 9 = .ok (.iload_n 2, 1) := by decide +kernel
theorem d_Md_taken_10 : decode b_Md_taken 10 = .ok (.aload_n 0, 1) := by decide +kernel
theorem d_Md_taken_11 : decode b_Md_taken 11 = .ok (.getfield 148, 3) := by decide +kernel
theorem d_Md_taken_14 : decode b_Md_taken 14 = .ok (.aload_n 0, 1) := by decide +kernel
theorem d_Md_taken_15 : decode b_Md_taken 15 = .ok (.getfield 148, 3) := by decide +kernel
theorem d_Md_taken_18 : decode b_Md_taken 18 = .ok (.sipush (300), 3) := by decide +kernel
theorem d_Md_taken_21 : decode b_Md_taken 21 = .ok (.iadd, 1) := by decide +kernel
theorem d_Md_taken_22 : decode b_Md_taken 22 = .ok (.invokestatic 120, 3) := by decide +kernel
theorem d_Md_taken_25 : decode b_Md_taken 25 = .ok (.ifCond .ne (6), 3) := by decide +kernel
theorem d_Md_taken_28 : decode b_Md_taken 28 = .ok (.bipush (-3), 2) := by decide +kernel
theorem d_Md_taken_30 : decode b_Md_taken 30 = .ok (.ireturn, 1) := by decide +kernel
theorem d_Md_taken_31 : decode b_Md_taken 31 = .ok (.iload_n 1, 1) := by decide +kernel
theorem d_Md_taken_32 : decode b_Md_taken 32 = .ok (.ifCond .ne (11), 3) := by decide +kernel
theorem d_Md_taken_35 : decode b_Md_taken 35 = .ok (.aload_n 0, 1) := by decide +kernel
theorem d_Md_taken_36 : decode b_Md_taken 36 = .ok (.iload_n 2, 1) := by decide +kernel
theorem d_Md_taken_37 : decode b_Md_taken 37 = .ok (.invokevirtual 155, 3) := by decide +kernel
theorem d_Md_taken_40 : decode b_Md_taken 40 = .ok (.goto (8), 3) := by decide +kernel
theorem d_Md_taken_43 : decode b_Md_taken 43 = .ok (.aload_n 0, 1) := by decide +kernel
theorem d_Md_taken_44 : decode b_Md_taken 44 = .ok (.iload_n 2, 1) := by decide +kernel
theorem d_Md_taken_45 : decode b_Md_taken 45 = .ok (.invokevirtual 197, 3) := by decide +kernel
theorem d_Md_taken_48 : decode b_Md_taken 48 = .ok (.ireturn, 1) := by decide +kernel
theorem d_Md_keep_0 : decode b_Md_keep 0 = .ok (.iconst 0, 1) := by decide +kernel
theorem d_Md_keep_1 : decode b_Md_keep 1 = .ok (.istore_n 1, 1) := by decide +kernel
theorem d_Md_keep_2 : decode b_Md_keep 2 = .ok (.iload_n 1, 1) := by decide +kernel
theorem d_Md_keep_3 : decode b_Md_keep 3 = .ok (.bipush (30), 2) := by decide +kernel
theorem d_Md_keep_5 : decode b_Md_keep 5 = .ok (.if_icmp .ge (69), 3) := by decide +kernel
theorem d_Md_keep_8 : decode b_Md_keep 8 = .ok (.aload_n 0, 1) := by decide +kernel
theorem d_Md_keep_9 : decode b_Md_keep 9 = .ok (.getfield 96, 3) := by decide +kernel
theorem d_Md_keep_12 : decode b_Md_keep 12 = .ok (.iload_n 1, 1) := by decide +kernel
theorem d_Md_keep_13 : decode b_Md_keep 13 = .ok (.aload_n 0, 1) := by decide +kernel
theorem d_Md_keep_14 : decode b_Md_keep 14 = .ok (.getfield 51, 3) := by decide +kernel
theorem d_Md_keep_17 : decode b_Md_keep 17 = .ok (.iload_n 1, 1) := by decide +kernel
theorem d_Md_keep_18 : decode b_Md_keep 18 = .ok (.iaload, 1) := by decide +kernel
theorem d_Md_keep_19 : decode b_Md_keep 19 = .ok (.iastore, 1) := by decide +kernel
theorem d_Md_keep_20 : decode b_Md_keep 20 = .ok (.aload_n 0, 1) := by decide +kernel
theorem d_Md_keep_21 : decode b_Md_keep 21 = .ok (.getfield 99, 3) := by decide +kernel
theorem d_Md_keep_24 : decode b_Md_keep 24 = .ok (.iload_n 1, 1) := by decide +kernel
theorem d_Md_keep_25 : decode b_Md_keep 25 = .ok (.aload_n 0, 1) := by decide +kernel
theorem d_Md_keep_26 : decode b_Md_keep 26 = .ok (.getfield 54, 3) := by decide +kernel
theorem d_Md_keep_29 : decode b_Md_keep 29 = .ok (.iload_n 1, 1) := by decide +kernel
theorem d_Md_keep_30 : decode b_Md_keep 30 = .ok (.iaload, 1) := by decide +kernel
theorem d_Md_keep_31 : decode b_Md_keep 31 = .ok (.iastore, 1) := by decide +kernel
theorem d_Md_keep_32 : decode b_Md_keep 32 = .ok (.aload_n 0, 1) := by decide +kernel
theorem d_Md_keep_33 : decode b_Md_keep 33 = .ok (.getfield 102, 3) := by decide +kernel
theorem d_Md_keep_36 : decode b_Md_keep 36 = .ok (.iload_n 1, 1) := by decide +kernel
theorem d_Md_keep_37 : decode b_Md_keep 37 = .ok (.aload_n 0, 1) := by decide +kernel
theorem d_Md_keep_38 : decode b_Md_keep 38 = .ok (.getfield 57, 3) := by decide +kernel
theorem d_Md_keep_41 : decode b_Md_keep 41 = .ok (.iload_n 1, 1) := by decide +kernel
theorem d_Md_keep_42 : decode b_Md_keep 42 = .ok (.iaload, 1) := by decide +kernel
theorem d_Md_keep_43 : decode b_Md_keep 43 = .ok (.iastore, 1) := by decide +kernel
theorem d_Md_keep_44 : decode b_Md_keep 44 = .ok (.aload_n 0, 1) := by decide +kernel
theorem d_Md_keep_45 : decode b_Md_keep 45 = .ok (.getfield 105, 3) := by decide +kernel
theorem d_Md_keep_48 : decode b_Md_keep 48 = .ok (.iload_n 1, 1) := by decide +kernel
theorem d_Md_keep_49 : decode b_Md_keep 49 = .ok (.aload_n 0, 1) := by decide +kernel
theorem d_Md_keep_50 : decode b_Md_keep 50 = .ok (.getfield 63, 3) := by decide +kernel
theorem d_Md_keep_53 : decode b_Md_keep 53 = .ok (.iload_n 1, 1) := by decide +kernel
theorem d_Md_keep_54 : decode b_Md_keep 54 = .ok (.iaload, 1) := by decide +kernel
theorem d_Md_keep_55 : decode b_Md_keep 55 = .ok (.iastore, 1) := by decide +kernel
theorem d_Md_keep_56 : decode b_Md_keep 56 = .ok (.aload_n 0, 1) := by decide +kernel
theorem d_Md_keep_57 : decode b_Md_keep 57 = .ok (.getfield 108, 3) := by decide +kernel
theorem d_Md_keep_60 : decode b_Md_keep 60 = .ok (.iload_n 1, 1) := by decide +kernel
theorem d_Md_keep_61 : decode b_Md_keep 61 = .ok (.aload_n 0, 1) := by decide +kernel
theorem d_Md_keep_62 : decode b_Md_keep 62 = .ok (.getfield 66, 3) := by decide +kernel
theorem d_Md_keep_65 : decode b_Md_keep 65 = .ok (.iload_n 1, 1) := by decide +kernel
theorem d_Md_keep_66 : decode b_Md_keep 66 = .ok (.iaload, 1) := by decide +kernel
theorem d_Md_keep_67 : decode b_Md_keep 67 = .ok (.iastore, 1) := by decide +kernel
theorem d_Md_keep_68 : decode b_Md_keep 68 = .ok (.iinc 1 (1), 3) := by decide +kernel
theorem d_Md_keep_71 : decode b_Md_keep 71 = .ok (.goto (-69), 3) := by decide +kernel
theorem d_Md_keep_74 : decode b_Md_keep 74 = .ok (.iconst 0, 1) := by decide +kernel
theorem d_Md_keep_75 : decode b_Md_keep 75 = .ok (.istore_n 1, 1) := by decide +kernel
theorem d_Md_keep_76 : decode b_Md_keep 76 = .ok (.iload_n 1, 1) := by decide +kernel
theorem d_Md_keep_77 : decode b_Md_keep 77 = .ok (.bipush (120), 2) := by decide +kernel
theorem d_Md_keep_79 : decode b_Md_keep 79 = .ok (.if_icmp .ge (21), 3) := by decide +kernel
theorem d_Md_keep_82 : decode b_Md_keep 82 = .ok (.aload_n 0, 1) := by decide +kernel
theorem d_Md_keep_83 : decode b_Md_keep 83 = .ok (.getfield 111, 3) := by decide +kernel
theorem d_Md_keep_86 : decode b_Md_keep 86 = .ok (.iload_n 1, 1) := by decide +kernel
theorem d_Md_keep_87 : decode b_Md_keep 87 = .ok (.aload_n 0, 1) := by decide +kernel
theorem d_Md_keep_88 : decode b_Md_keep 88 = .ok (.getfield 69, 3) := by decide +kernel
theorem d_Md_keep_91 : decode b_Md_keep 91 = .ok (.iload_n 1, 1) := by decide +kernel
theorem d_Md_keep_92 : decode b_Md_keep 92 = .ok (.iaload, 1) := by decide +kernel
theorem d_Md_keep_93 : decode b_Md_keep 93 = .ok (.iastore, 1) := by decide +kernel
theorem d_Md_keep_94 : decode b_Md_keep 94 = .ok (.iinc 1 (1), 3) := by decide +kernel
theorem d_Md_keep_97 : decode b_Md_keep 97 = .ok (.goto (-21), 3) := by decide +kernel
theorem d_Md_keep_100 : decode b_Md_keep 100 = .ok (.iconst 0, 1) := by decide +kernel
theorem d_Md_keep_101 : decode b_Md_keep 101 = .ok (.istore_n 1, 1) := by decide +kernel
theorem d_Md_keep_102 : decode b_Md_keep 102 = .ok (.iload_n 1, 1) := by decide +kernel
theorem d_Md_keep_103 : decode b_Md_keep 103 = .ok (.bipush (6), 2) := by decide +kernel
theorem d_Md_keep_105 : decode b_Md_keep 105 = .ok (.if_icmp .ge (21), 3) := by decide +kernel
theorem d_Md_keep_108 : decode b_Md_keep 108 = .ok (.aload_n 0, 1) := by decide +kernel
theorem d_Md_keep_109 : decode b_Md_keep 109 = .ok (.getfield 114, 3) := by decide +kernel
theorem d_Md_keep_112 : decode b_Md_keep 112 = .ok (.iload_n 1, 1) := by decide +kernel
theorem d_Md_keep_113 : decode b_Md_keep 113 = .ok (.aload_n 0, 1) := by decide +kernel
theorem d_Md_keep_114 : decode b_Md_keep 114 = .ok (.getfield 27, 3) := by decide +kernel
theorem d_Md_keep_117 : decode b_Md_keep 117 = .ok (.iload_n 1, 1) := by decide +kernel
theorem d_Md_keep_118 : decode b_Md_keep 118 = .ok (.iaload, 1) := by decide +kernel
theorem d_Md_keep_119 : decode b_Md_keep 119 = .ok (.iastore, 1) := by decide +kernel
theorem d_Md_keep_120 : decode b_Md_keep 120 = .ok (.iinc 1 (1), 3) := by decide +kernel
theorem d_Md_keep_123 : decode b_Md_keep 123 = .ok (.goto (-21), 3) := by decide +kernel
theorem d_Md_keep_126 : decode b_Md_keep 126 = .ok (.return_, 1) := by decide +kernel
theorem d_Md_putBack_0 : decode b_Md_putBack 0 = .ok (.iconst 0, 1) := by decide +kernel
theorem d_Md_putBack_1 : decode b_Md_putBack 1 = .ok (.istore_n 1, 1) := by decide +kernel
theorem d_Md_putBack_2 : decode b_Md_putBack 2 = .ok (.iload_n 1, 1) := by decide +kernel
theorem d_Md_putBack_3 : decode b_Md_putBack 3 = .ok (.bipush (30), 2) := by decide +kernel
theorem d_Md_putBack_5 : decode b_Md_putBack 5 = .ok (.if_icmp .ge (69), 3) := by decide +kernel
theorem d_Md_putBack_8 : decode b_Md_putBack 8 = .ok (.aload_n 0, 1) := by decide +kernel
theorem d_Md_putBack_9 : decode b_Md_putBack 9 = .ok (.getfield 51, 3) := by decide +kernel
theorem d_Md_putBack_12 : decode b_Md_putBack 12 = .ok (.iload_n 1, 1) := by decide +kernel
theorem d_Md_putBack_13 : decode b_Md_putBack 13 = .ok (.aload_n 0, 1) := by decide +kernel
theorem d_Md_putBack_14 : decode b_Md_putBack 14 = .ok (.getfield 96, 3) := by decide +kernel
theorem d_Md_putBack_17 : decode b_Md_putBack 17 = .ok (.iload_n 1, 1) := by decide +kernel
theorem d_Md_putBack_18 : decode b_Md_putBack 18 = .ok (.iaload, 1) := by decide +kernel
theorem d_Md_putBack_19 : decode b_Md_putBack 19 = .ok (.iastore, 1) := by decide +kernel
theorem d_Md_putBack_20 : decode b_Md_putBack 20 = .ok (.aload_n 0, 1) := by decide +kernel
theorem d_Md_putBack_21 : decode b_Md_putBack 21 = .ok (.getfield 54, 3) := by decide +kernel
theorem d_Md_putBack_24 : decode b_Md_putBack 24 = .ok (.iload_n 1, 1) := by decide +kernel
theorem d_Md_putBack_25 : decode b_Md_putBack 25 = .ok (.aload_n 0, 1) := by decide +kernel
theorem d_Md_putBack_26 : decode b_Md_putBack 26 = .ok (.getfield 99, 3) := by decide +kernel
theorem d_Md_putBack_29 : decode b_Md_putBack 29 = .ok (.iload_n 1, 1) := by decide +kernel
theorem d_Md_putBack_30 : decode b_Md_putBack 30 = .ok (.iaload, 1) := by decide +kernel
theorem d_Md_putBack_31 : decode b_Md_putBack 31 = .ok (.iastore, 1) := by decide +kernel
theorem d_Md_putBack_32 : decode b_Md_putBack 32 = .ok (.aload_n 0, 1) := by decide +kernel
theorem d_Md_putBack_33 : decode b_Md_putBack 33 = .ok (.getfield 57, 3) := by decide +kernel
theorem d_Md_putBack_36 : decode b_Md_putBack 36 = .ok (.iload_n 1, 1) := by decide +kernel
theorem d_Md_putBack_37 : decode b_Md_putBack 37 = .ok (.aload_n 0, 1) := by decide +kernel
theorem d_Md_putBack_38 : decode b_Md_putBack 38 = .ok (.getfield 102, 3) := by decide +kernel
theorem d_Md_putBack_41 : decode b_Md_putBack 41 = .ok (.iload_n 1, 1) := by decide +kernel
theorem d_Md_putBack_42 : decode b_Md_putBack 42 = .ok (.iaload, 1) := by decide +kernel
theorem d_Md_putBack_43 : decode b_Md_putBack 43 = .ok (.iastore, 1) := by decide +kernel
theorem d_Md_putBack_44 : decode b_Md_putBack 44 = .ok (.aload_n 0, 1) := by decide +kernel
theorem d_Md_putBack_45 : decode b_Md_putBack 45 = .ok (.getfield 63, 3) := by decide +kernel
theorem d_Md_putBack_48 : decode b_Md_putBack 48 = .ok (.iload_n 1, 1) := by decide +kernel
theorem d_Md_putBack_49 : decode b_Md_putBack 49 = .ok (.aload_n 0, 1) := by decide +kernel
theorem d_Md_putBack_50 : decode b_Md_putBack 50 = .ok (.getfield 105, 3) := by decide +kernel
theorem d_Md_putBack_53 : decode b_Md_putBack 53 = .ok (.iload_n 1, 1) := by decide +kernel
theorem d_Md_putBack_54 : decode b_Md_putBack 54 = .ok (.iaload, 1) := by decide +kernel
theorem d_Md_putBack_55 : decode b_Md_putBack 55 = .ok (.iastore, 1) := by decide +kernel
theorem d_Md_putBack_56 : decode b_Md_putBack 56 = .ok (.aload_n 0, 1) := by decide +kernel
theorem d_Md_putBack_57 : decode b_Md_putBack 57 = .ok (.getfield 66, 3) := by decide +kernel
theorem d_Md_putBack_60 : decode b_Md_putBack 60 = .ok (.iload_n 1, 1) := by decide +kernel
theorem d_Md_putBack_61 : decode b_Md_putBack 61 = .ok (.aload_n 0, 1) := by decide +kernel
theorem d_Md_putBack_62 : decode b_Md_putBack 62 = .ok (.getfield 108, 3) := by decide +kernel
theorem d_Md_putBack_65 : decode b_Md_putBack 65 = .ok (.iload_n 1, 1) := by decide +kernel
theorem d_Md_putBack_66 : decode b_Md_putBack 66 = .ok (.iaload, 1) := by decide +kernel
theorem d_Md_putBack_67 : decode b_Md_putBack 67 = .ok (.iastore, 1) := by decide +kernel
theorem d_Md_putBack_68 : decode b_Md_putBack 68 = .ok (.iinc 1 (1), 3) := by decide +kernel
theorem d_Md_putBack_71 : decode b_Md_putBack 71 = .ok (.goto (-69), 3) := by decide +kernel
theorem d_Md_putBack_74 : decode b_Md_putBack 74 = .ok (.iconst 0, 1) := by decide +kernel
theorem d_Md_putBack_75 : decode b_Md_putBack 75 = .ok (.istore_n 1, 1) := by decide +kernel
theorem d_Md_putBack_76 : decode b_Md_putBack 76 = .ok (.iload_n 1, 1) := by decide +kernel
theorem d_Md_putBack_77 : decode b_Md_putBack 77 = .ok (.bipush (120), 2) := by decide +kernel
theorem d_Md_putBack_79 : decode b_Md_putBack 79 = .ok (.if_icmp .ge (21), 3) := by decide +kernel
theorem d_Md_putBack_82 : decode b_Md_putBack 82 = .ok (.aload_n 0, 1) := by decide +kernel
theorem d_Md_putBack_83 : decode b_Md_putBack 83 = .ok (.getfield 69, 3) := by decide +kernel
theorem d_Md_putBack_86 : decode b_Md_putBack 86 = .ok (.iload_n 1, 1) := by decide +kernel
theorem d_Md_putBack_87 : decode b_Md_putBack 87 = .ok (.aload_n 0, 1) := by decide +kernel
theorem d_Md_putBack_88 : decode b_Md_putBack 88 = .ok (.getfield 111, 3) := by decide +kernel
theorem d_Md_putBack_91 : decode b_Md_putBack 91 = .ok (.iload_n 1, 1) := by decide +kernel
theorem d_Md_putBack_92 : decode b_Md_putBack 92 = .ok (.iaload, 1) := by decide +kernel
theorem d_Md_putBack_93 : decode b_Md_putBack 93 = .ok (.iastore, 1) := by decide +kernel
theorem d_Md_putBack_94 : decode b_Md_putBack 94 = .ok (.iinc 1 (1), 3) := by decide +kernel
theorem d_Md_putBack_97 : decode b_Md_putBack 97 = .ok (.goto (-21), 3) := by decide +kernel
theorem d_Md_putBack_100 : decode b_Md_putBack 100 = .ok (.iconst 0, 1) := by decide +kernel
theorem d_Md_putBack_101 : decode b_Md_putBack 101 = .ok (.istore_n 1, 1) := by decide +kernel
theorem d_Md_putBack_102 : decode b_Md_putBack 102 = .ok (.iload_n 1, 1) := by decide +kernel
theorem d_Md_putBack_103 : decode b_Md_putBack 103 = .ok (.bipush (6), 2) := by decide +kernel
theorem d_Md_putBack_105 : decode b_Md_putBack 105 = .ok (.if_icmp .ge (21), 3) := by decide +kernel
theorem d_Md_putBack_108 : decode b_Md_putBack 108 = .ok (.aload_n 0, 1) := by decide +kernel
theorem d_Md_putBack_109 : decode b_Md_putBack 109 = .ok (.getfield 27, 3) := by decide +kernel
theorem d_Md_putBack_112 : decode b_Md_putBack 112 = .ok (.iload_n 1, 1) := by decide +kernel
theorem d_Md_putBack_113 : decode b_Md_putBack 113 = .ok (.aload_n 0, 1) := by decide +kernel
theorem d_Md_putBack_114 : decode b_Md_putBack 114 = .ok (.getfield 114, 3) := by decide +kernel
theorem d_Md_putBack_117 : decode b_Md_putBack 117 = .ok (.iload_n 1, 1) := by decide +kernel
theorem d_Md_putBack_118 : decode b_Md_putBack 118 = .ok (.iaload, 1) := by decide +kernel
theorem d_Md_putBack_119 : decode b_Md_putBack 119 = .ok (.iastore, 1) := by decide +kernel
theorem d_Md_putBack_120 : decode b_Md_putBack 120 = .ok (.iinc 1 (1), 3) := by decide +kernel
theorem d_Md_putBack_123 : decode b_Md_putBack 123 = .ok (.goto (-21), 3) := by decide +kernel
theorem d_Md_putBack_126 : decode b_Md_putBack 126 = .ok (.return_, 1) := by decide +kernel
theorem d_Md_foreseen_0 : decode b_Md_foreseen 0 = .ok (.aload_n 0, 1) := by decide +kernel
theorem d_Md_foreseen_1 : decode b_Md_foreseen 1 = .ok (.iload_n 1, 1) := by decide +kernel
theorem d_Md_foreseen_2 : decode b_Md_foreseen 2 = .ok (.invokevirtual 138, 3) := by decide +kernel
theorem d_Md_foreseen_5 : decode b_Md_foreseen 5 = .ok (.ifCond .ne (6), 3) := by decide +kernel
theorem d_Md_foreseen_8 : decode b_Md_foreseen 8 = .ok (.bipush (-2), 2) := by decide +kernel
theorem d_Md_foreseen_10 : decode b_Md_foreseen 10 = .ok (.ireturn, 1) := by decide +kernel
theorem d_Md_foreseen_11 : decode b_Md_foreseen 11 = .ok (.aload_n 0, 1) := by decide +kernel
theorem d_Md_foreseen_12 : decode b_Md_foreseen 12 = .ok (.getfield 51, 3) := by decide +kernel
theorem d_Md_foreseen_15 : decode b_Md_foreseen 15 = .ok (.iload_n 1, 1) := by decide +kernel
theorem d_Md_foreseen_16 : decode b_Md_foreseen 16 = .ok (.iaload, 1) := by decide +kernel
theorem d_Md_foreseen_17 : decode b_Md_foreseen 17 = .ok (.ifCond .eq (24), 3) := by decide +kernel
theorem d_Md_foreseen_20 : decode b_Md_foreseen 20 = .ok (.aload_n 0, 1) := by decide +kernel
theorem d_Md_foreseen_21 : decode b_Md_foreseen 21 = .ok (.getfield 51, 3) := by decide +kernel
theorem d_Md_foreseen_24 : decode b_Md_foreseen 24 = .ok (.iload_n 1, 1) := by decide +kernel
theorem d_Md_foreseen_25 : decode b_Md_foreseen 25 = .ok (.iaload, 1) := by decide +kernel
theorem d_Md_foreseen_26 : decode b_Md_foreseen 26 = .ok (.iconst 1, 1) := by decide +kernel
theorem d_Md_foreseen_27 : decode b_Md_foreseen 27 = .ok (.if_icmp .ne (12), 3) := by decide +kernel
theorem d_Md_foreseen_30 : decode b_Md_foreseen 30 = .ok (.aload_n 0, 1) := by decide +kernel
theorem d_Md_foreseen_31 : decode b_Md_foreseen 31 = .ok (.getfield 54, 3) := by decide +kernel
theorem d_Md_foreseen_34 : decode b_Md_foreseen 34 = .ok (.iload_n 1, 1) := by decide +kernel
theorem d_Md_foreseen_35 : decode b_Md_foreseen 35 = .ok (.iaload, 1) := by decide +kernel
theorem d_Md_foreseen_36 : decode b_Md_foreseen 36 = .ok (.goto (4), 3) := by decide +kernel
theorem d_Md_foreseen_39 : decode b_Md_foreseen 39 = .ok (.iconst (-1), 1) := by decide +kernel
theorem d_Md_foreseen_40 : decode b_Md_foreseen 40 = .ok (.ireturn, 1) := by decide +kernel
theorem d_Md_foreseen_41 : decode b_Md_foreseen 41 = .ok (.aload_n 0, 1) := by decide +kernel
theorem d_Md_foreseen_42 : decode b_Md_foreseen 42 = .ok (.getfield 148, 3) := by decide +kernel
theorem d_Md_foreseen_45 : decode b_Md_foreseen 45 = .ok (.istore_n 2, 1) := by decide +kernel
theorem d_Md_foreseen_46 : decode b_Md_foreseen 46 = .ok (.aload_n 0, 1) := by decide +kernel
theorem d_Md_foreseen_47 : decode b_Md_foreseen 47 = .ok (.getfield 81, 3) := by decide +kernel
theorem d_Md_foreseen_50 : decode b_Md_foreseen 50 = .ok (.istore_n 3, 1) := by decide +kernel
theorem d_Md_foreseen_51 : decode b_Md_foreseen 51 = .ok (.aload_n 0, 1) := by decide +kernel
theorem d_Md_foreseen_52 : decode b_Md_foreseen 52 = .ok (.getfield 84, 3) := by decide +kernel
theorem d_Md_foreseen_55 : decode b_Md_foreseen 55 = .ok (.istore 4, 2) := by decide +kernel
theorem d_Md_foreseen_57 : decode b_Md_foreseen 57 = .ok (.aload_n 0, 1) := by decide +kernel
theorem d_Md_foreseen_58 : decode b_Md_foreseen 58 = .ok (.getfield 162, 3) := by decide +kernel
theorem d_Md_foreseen_61 : decode b_Md_foreseen 61 = .ok (.istore 5, 2) := by decide +kernel
theorem d_Md_foreseen_63 : decode b_Md_foreseen 63 = .ok (.aload_n 0, 1) := by decide +kernel
theorem d_Md_foreseen_64 : decode b_Md_foreseen 64 = .ok (.invokevirtual 200, 3) := by decide +kernel
theorem d_Md_foreseen_67 : decode b_Md_foreseen 67 = .ok (.aload_n 0, 1) := by decide +kernel
theorem d_Md_foreseen_68 : decode b_Md_foreseen 68 = .ok (.iconst 1, 1) := by decide +kernel
theorem d_Md_foreseen_69 : decode b_Md_foreseen 69 = .ok (.putfield 190, 3) := by decide +kernel
theorem d_Md_foreseen_72 : decode b_Md_foreseen 72 = .ok (.iconst 0, 1) := by decide +kernel
theorem d_Md_foreseen_73 : decode b_Md_foreseen 73 = .ok (.istore 6, 2) := by decide +kernel
theorem d_Md_foreseen_75 : decode b_Md_foreseen 75 = .ok (.iload 6, 2) := by decide +kernel
theorem d_Md_foreseen_77 : decode b_Md_foreseen 77 = .ok (.sipush (300), 3) := by decide +kernel
theorem d_Md_foreseen_80 : decode b_Md_foreseen 80 = .ok (.if_icmp .ge (22), 3) := by decide +kernel
theorem d_Md_foreseen_83 : decode b_Md_foreseen 83 = .ok (.aload_n 0, 1) := by decide +kernel
theorem d_Md_foreseen_84 : decode b_Md_foreseen 84 = .ok (.getfield 51, 3) := by decide +kernel
theorem d_Md_foreseen_87 : decode b_Md_foreseen 87 = .ok (.iload_n 1, 1) := by decide +kernel
theorem d_Md_foreseen_88 : decode b_Md_foreseen 88 = .ok (.iaload, 1) := by decide +kernel
theorem d_Md_foreseen_89 : decode b_Md_foreseen 89 = .ok (.ifCond .ne (13), 3) := by decide +kernel
theorem d_Md_foreseen_92 : decode b_Md_foreseen 92 = .ok (.aload_n 0, 1) := by decide +kernel
theorem d_Md_foreseen_93 : decode b_Md_foreseen 93 = .ok (.invokevirtual 194, 3) := by decide +kernel
theorem d_Md_foreseen_96 : decode b_Md_foreseen 96 = .ok (.iinc 6 (1), 3) := by decide +kernel
theorem d_Md_foreseen_99 : decode b_Md_foreseen 99 = .ok (.goto (-24), 3) := by decide +kernel
theorem d_Md_foreseen_102 : decode b_Md_foreseen 102 = .ok (.aload_n 0, 1) := by decide +kernel
theorem d_Md_foreseen_103 : decode b_Md_foreseen 103 = .ok (.getfield 51, 3) := by decide +kernel
theorem d_Md_foreseen_106 : decode b_Md_foreseen 106 = .ok (.iload_n 1, 1) := by decide +kernel
theorem d_Md_foreseen_107 : decode b_Md_foreseen 107 = .ok (.iaload, 1) := by decide +kernel
theorem d_Md_foreseen_108 : decode b_Md_foreseen 108 = .ok (.ifCond .ne (7), 3) := by decide +kernel
theorem d_Md_foreseen_111 : decode b_Md_foreseen 111 = .ok (.iconst (-1), 1) := by decide +kernel
theorem d_Md_foreseen_112 : decode b_Md_foreseen 112 = .ok (.goto (9), 3) := by decide +kernel
theorem d_Md_foreseen_115 : decode b_Md_foreseen 115 = .ok (.aload_n 0, 1) := by decide +kernel
theorem d_Md_foreseen_116 : decode b_Md_foreseen 116 = .ok (.getfield 54, 3) := by decide +kernel
theorem d_Md_foreseen_119 : decode b_Md_foreseen 119 = .ok (.iload_n 1, 1) := by decide +kernel
theorem d_Md_foreseen_120 : decode b_Md_foreseen 120 = .ok (.iaload, 1) := by decide +kernel
theorem d_Md_foreseen_121 : decode b_Md_foreseen 121 = .ok (.istore 7, 2) := by decide +kernel
theorem d_Md_foreseen_123 : decode b_Md_foreseen 123 = .ok (.aload_n 0, 1) := by decide +kernel
theorem d_Md_foreseen_124 : decode b_Md_foreseen 124 = .ok (.iconst 0, 1) := by decide +kernel
theorem d_Md_foreseen_125 : decode b_Md_foreseen 125 = .ok (.putfield 190, 3) := by decide +kernel
theorem d_Md_foreseen_128 : decode b_Md_foreseen 128 = .ok (.aload_n 0, 1) := by decide +kernel
theorem d_Md_foreseen_129 : decode b_Md_foreseen 129 = .ok (.invokevirtual 203, 3) := by decide +kernel
theorem d_Md_foreseen_132 : decode b_Md_foreseen 132 = .ok (.aload_n 0, 1) := by decide +kernel
theorem d_Md_foreseen_133 : decode b_Md_foreseen 133 = .ok (.iload_n 2, 1) := by decide +kernel
theorem d_Md_foreseen_134 : decode b_Md_foreseen 134 = .ok (.putfield 148, 3) := by decide +kernel
theorem d_Md_foreseen_137 : decode b_Md_foreseen 137 = .ok (.aload_n 0, 1) := by decide +kernel
theorem d_Md_foreseen_138 : decode b_Md_foreseen 138 = .ok (.iload_n 3, 1) := by decide +kernel
theorem d_Md_foreseen_139 : decode b_Md_foreseen 139 = .ok (.putfield 81, 3) := by decide +kernel
theorem d_Md_foreseen_142 : decode b_Md_foreseen 142 = .ok (.aload_n 0, 1) := by decide +kernel
theorem d_Md_foreseen_143 : decode b_Md_foreseen 143 = .ok (.iload 4, 2) := by decide +kernel
theorem d_Md_foreseen_145 : decode b_Md_foreseen 145 = .ok (.putfield 84, 3) := by decide +kernel
theorem d_Md_foreseen_148 : decode b_Md_foreseen 148 = .ok (.aload_n 0, 1) := by decide +kernel
theorem d_Md_foreseen_149 : decode b_Md_foreseen 149 = .ok (.iload 5, 2) := by decide +kernel
theorem d_Md_foreseen_151 : decode b_Md_foreseen 151 = .ok (.putfield 162, 3) := by decide +kernel
theorem d_Md_foreseen_154 : decode b_Md_foreseen 154 = .ok (.iload 7, 2) := by decide +kernel
theorem d_Md_foreseen_156 : decode b_Md_foreseen 156 = .ok (.ireturn, 1) := by decide +kernel
theorem d_Md_count_0 : decode b_Md_count 0 = .ok (.iconst 0, 1) := by decide +kernel
theorem d_Md_count_1 : decode b_Md_count 1 = .ok (.istore_n 2, 1) := by decide +kernel
theorem d_Md_count_2 : decode b_Md_count 2 = .ok (.iload_n 1, 1) := by decide +kernel
theorem d_Md_count_3 : decode b_Md_count 3 = .ok (.tableswitch (147) 0 7 #[45, 50, 55, 60, 96, 132, 137, 142], 45) := by decide +kernel
theorem d_Md_count_48 : decode b_Md_count 48 = .ok (.aload_n 0, 1) := by decide +kernel
theorem d_Md_count_49 : decode b_Md_count 49 = .ok (.getfield 117, 3) := by decide +kernel
theorem d_Md_count_52 : decode b_Md_count 52 = .ok (.ireturn, 1) := by decide +kernel
theorem d_Md_count_53 : decode b_Md_count 53 = .ok (.aload_n 0, 1) := by decide +kernel
theorem d_Md_count_54 : decode b_Md_count 54 = .ok (.getfield 135, 3) := by decide +kernel
theorem d_Md_count_57 : decode b_Md_count 57 = .ok (.ireturn, 1) := by decide +kernel
theorem d_Md_count_58 : decode b_Md_count 58 = .ok (.aload_n 0, 1) := by decide +kernel
theorem d_Md_count_59 : decode b_Md_count 59 = .ok (.getfield 124, 3) := by decide +kernel
theorem d_Md_count_62 : decode b_Md_count 62 = .ok (.ireturn, 1) := by decide +kernel
theorem d_Md_count_63 : decode b_Md_count 63 = .ok (.iconst 0, 1) := by decide +kernel
theorem d_Md_count_64 : decode b_Md_count 64 = .ok (.istore_n 3, 1) := by decide +kernel
theorem d_Md_count_65 : decode b_Md_count 65 = .ok (.iload_n 3, 1) := by decide +kernel
theorem d_Md_count_66 : decode b_Md_count 66 = .ok (.aload_n 0, 1) := by decide +kernel
theorem d_Md_count_67 : decode b_Md_count 67 = .ok (.getfield 124, 3) := by decide +kernel
theorem d_Md_count_70 : decode b_Md_count 70 = .ok (.if_icmp .ge (27), 3) := by decide +kernel
theorem d_Md_count_73 : decode b_Md_count 73 = .ok (.iload_n 2, 1) := by decide +kernel
theorem d_Md_count_74 : decode b_Md_count 74 = .ok (.aload_n 0, 1) := by decide +kernel
theorem d_Md_count_75 : decode b_Md_count 75 = .ok (.getfield 51, 3) := by decide +kernel
theorem d_Md_count_78 : decode b_Md_count 78 = .ok (.iload_n 3, 1) := by decide +kernel
theorem d_Md_count_79 : decode b_Md_count 79 = .ok (.iaload, 1) := by decide +kernel
theorem d_Md_count_80 : decode b_Md_count 80 = .ok (.iconst 1, 1) := by decide +kernel
theorem d_Md_count_81 : decode b_Md_count 81 = .ok (.if_icmp .ne (7), 3) := by decide +kernel
theorem d_Md_count_84 : decode b_Md_count 84 = .ok (.iconst 1, 1) := by decide +kernel
theorem d_Md_count_85 : decode b_Md_count 85 = .ok (.goto (4), 3) := by decide +kernel
theorem d_Md_count_88 : decode b_Md_count 88 = .ok (.iconst 0, 1) := by decide +kernel
theorem d_Md_count_89 : decode b_Md_count 89 = .ok (.iadd, 1) := by decide +kernel
theorem d_Md_count_90 : decode b_Md_count 90 = .ok (.istore_n 2, 1) := by decide +kernel
theorem d_Md_count_91 : decode b_Md_count 91 = .ok (.iinc 3 (1), 3) := by decide +kernel
theorem d_Md_count_94 : decode b_Md_count 94 = .ok (.goto (-29), 3) := by decide +kernel
theorem d_Md_count_97 : decode b_Md_count 97 = .ok (.iload_n 2, 1) := by decide +kernel
theorem d_Md_count_98 : decode b_Md_count 98 = .ok (.ireturn, 1) := by decide +kernel
theorem d_Md_count_99 : decode b_Md_count 99 = .ok (.iconst 0, 1) := by decide +kernel
theorem d_Md_count_100 : decode b_Md_count 100 = .ok (.istore_n 3, 1) := by decide +kernel
theorem d_Md_count_101 : decode b_Md_count 101 = .ok (.iload_n 3, 1) := by decide +kernel
theorem d_Md_count_102 : decode b_Md_count 102 = .ok (.aload_n 0, 1) := by decide +kernel
theorem d_Md_count_103 : decode b_Md_count 103 = .ok (.getfield 124, 3) := by decide +kernel
theorem d_Md_count_106 : decode b_Md_count 106 = .ok (.if_icmp .ge (27), 3) := by decide +kernel
theorem d_Md_count_109 : decode b_Md_count 109 = .ok (.iload_n 2, 1) := by decide +kernel
theorem d_Md_count_110 : decode b_Md_count 110 = .ok (.aload_n 0, 1) := by decide +kernel
theorem d_Md_count_111 : decode b_Md_count 111 = .ok (.getfield 51, 3) := by decide +kernel
theorem d_Md_count_114 : decode b_Md_count 114 = .ok (.iload_n 3, 1) := by decide +kernel
theorem d_Md_count_115 : decode b_Md_count 115 = .ok (.iaload, 1) := by decide +kernel
theorem d_Md_count_116 : decode b_Md_count 116 = .ok (.iconst 2, 1) := by decide +kernel
theorem d_Md_count_117 : decode b_Md_count 117 = .ok (.if_icmp .ne (7), 3) := by decide +kernel
theorem d_Md_count_120 : decode b_Md_count 120 = .ok (.iconst 1, 1) := by decide +kernel
theorem d_Md_count_121 : decode b_Md_count 121 = .ok (.goto (4), 3) := by decide +kernel
theorem d_Md_count_124 : decode b_Md_count 124 = .ok (.iconst 0, 1) := by decide +kernel
theorem d_Md_count_125 : decode b_Md_count 125 = .ok (.iadd, 1) := by decide +kernel
theorem d_Md_count_126 : decode b_Md_count 126 = .ok (.istore_n 2, 1) := by decide +kernel
theorem d_Md_count_127 : decode b_Md_count 127 = .ok (.iinc 3 (1), 3) := by decide +kernel
theorem d_Md_count_130 : decode b_Md_count 130 = .ok (.goto (-29), 3) := by decide +kernel
theorem d_Md_count_133 : decode b_Md_count 133 = .ok (.iload_n 2, 1) := by decide +kernel
theorem d_Md_count_134 : decode b_Md_count 134 = .ok (.ireturn, 1) := by decide +kernel
theorem d_Md_count_135 : decode b_Md_count 135 = .ok (.aload_n 0, 1) := by decide +kernel
theorem d_Md_count_136 : decode b_Md_count 136 = .ok (.getfield 145, 3) := by decide +kernel
theorem d_Md_count_139 : decode b_Md_count 139 = .ok (.ireturn, 1) := by decide +kernel
theorem d_Md_count_140 : decode b_Md_count 140 = .ok (.aload_n 0, 1) := by decide +kernel
theorem d_Md_count_141 : decode b_Md_count 141 = .ok (.getfield 148, 3) := by decide +kernel
theorem d_Md_count_144 : decode b_Md_count 144 = .ok (.ireturn, 1) := by decide +kernel
theorem d_Md_count_145 : decode b_Md_count 145 = .ok (.aload_n 0, 1) := by decide +kernel
theorem d_Md_count_146 : decode b_Md_count 146 = .ok (.invokevirtual 151, 3) := by decide +kernel
theorem d_Md_count_149 : decode b_Md_count 149 = .ok (.ireturn, 1) := by decide +kernel
theorem d_Md_count_150 : decode b_Md_count 150 = .ok (.bipush (-3), 2) := by decide +kernel
theorem d_Md_count_152 : decode b_Md_count 152 = .ok (.ireturn, 1) := by decide +kernel
