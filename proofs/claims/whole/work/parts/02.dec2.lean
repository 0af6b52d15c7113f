theorem d_Mc_init_0 : decode b_Mc_init 0 = .ok (.aload_n 0, 1) := by decide +kernel
theorem d_Mc_init_1 : decode b_Mc_init 1 = .ok (.invokespecial 3, 3) := by decide +kernel
theorem d_Mc_init_4 : decode b_Mc_init 4 = .ok (.aload_n 0, 1) := by decide +kernel
theorem d_Mc_init_5 : decode b_Mc_init 5 = .ok (.iconst 4, 1) := by decide +kernel
theorem d_Mc_init_6 : decode b_Mc_init 6 = .ok (.anewarray 9, 3) := by decide +kernel
theorem d_Mc_init_9 : decode b_Mc_init 9 = .ok (.putfield 11, 3) := by decide +kernel
theorem d_Mc_init_12 : decode b_Mc_init 12 = .ok (.aload_n 0, 1) := by decide +kernel
theorem d_Mc_init_13 : decode b_Mc_init 13 = .ok (.bipush (6), 2) := by decide +kernel
theorem d_Mc_init_15 : decode b_Mc_init 15 = .ok (.anewarray 17, 3) := by decide +kernel
theorem d_Mc_init_18 : decode b_Mc_init 18 = .ok (.putfield 19, 3) := by decide +kernel
theorem d_Mc_init_21 : decode b_Mc_init 21 = .ok (.aload_n 0, 1) := by decide +kernel
theorem d_Mc_init_22 : decode b_Mc_init 22 = .ok (.bipush (30), 2) := by decide +kernel
theorem d_Mc_init_24 : decode b_Mc_init 24 = .ok (.anewarray 23, 3) := by decide +kernel
theorem d_Mc_init_27 : decode b_Mc_init 27 = .ok (.putfield 25, 3) := by decide +kernel
theorem d_Mc_init_30 : decode b_Mc_init 30 = .ok (.aload_n 0, 1) := by decide +kernel
theorem d_Mc_init_31 : decode b_Mc_init 31 = .ok (.bipush (9), 2) := by decide +kernel
theorem d_Mc_init_33 : decode b_Mc_init 33 = .ok (.anewarray 29, 3) := by decide +kernel
theorem d_Mc_init_36 : decode b_Mc_init 36 = .ok (.putfield 31, 3) := by decide +kernel
theorem d_Mc_init_39 : decode b_Mc_init 39 = .ok (.aload_n 0, 1) := by decide +kernel
theorem d_Mc_init_40 : decode b_Mc_init 40 = .ok (.bipush (100), 2) := by decide +kernel
theorem d_Mc_init_42 : decode b_Mc_init 42 = .ok (.putfield 35, 3) := by decide +kernel
theorem d_Mc_init_45 : decode b_Mc_init 45 = .ok (.aload_n 0, 1) := by decide +kernel
theorem d_Mc_init_46 : decode b_Mc_init 46 = .ok (.bipush (10), 2) := by decide +kernel
theorem d_Mc_init_48 : decode b_Mc_init 48 = .ok (.putfield 39, 3) := by decide +kernel
theorem d_Mc_init_51 : decode b_Mc_init 51 = .ok (.aload_n 0, 1) := by decide +kernel
theorem d_Mc_init_52 : decode b_Mc_init 52 = .ok (.iconst (-1), 1) := by decide +kernel
theorem d_Mc_init_53 : decode b_Mc_init 53 = .ok (.putfield 42, 3) := by decide +kernel
theorem d_Mc_init_56 : decode b_Mc_init 56 = .ok (.aload_n 0, 1) := by decide +kernel
theorem d_Mc_init_57 : decode b_Mc_init 57 = .ok (.iconst (-1), 1) := by decide +kernel
theorem d_Mc_init_58 : decode b_Mc_init 58 = .ok (.putfield 45, 3) := by decide +kernel
theorem d_Mc_init_61 : decode b_Mc_init 61 = .ok (.aload_n 0, 1) := by decide +kernel
theorem d_Mc_init_62 : decode b_Mc_init 62 = .ok (.bipush (30), 2) := by decide +kernel
theorem d_Mc_init_64 : decode b_Mc_init 64 = .ok (.newarray .int, 2) := by decide +kernel
theorem d_Mc_init_66 : decode b_Mc_init 66 = .ok (.putfield 48, 3) := by decide +kernel
theorem d_Mc_init_69 : decode b_Mc_init 69 = .ok (.iconst 0, 1) := by decide +kernel
theorem d_Mc_init_70 : decode b_Mc_init 70 = .ok (.istore_n 1, 1) := by decide +kernel
theorem d_Mc_init_71 : decode b_Mc_init 71 = .ok (.iload_n 1, 1) := by decide +kernel
theorem d_Mc_init_72 : decode b_Mc_init 72 = .ok (.iconst 4, 1) := by decide +kernel
theorem d_Mc_init_73 : decode b_Mc_init 73 = .ok (.if_icmp .ge (22), 3) := by decide +kernel
theorem d_Mc_init_76 : decode b_Mc_init 76 = .ok (.aload_n 0, 1) := by decide +kernel
theorem d_Mc_init_77 : decode b_Mc_init 77 = .ok (.getfield 11, 3) := by decide +kernel
theorem d_Mc_init_80 : decode b_Mc_init 80 = .ok (.iload_n 1, 1) := by decide +kernel
theorem d_Mc_init_81 : decode b_Mc_init 81 = .ok (.new 9, 3) := by decide +kernel
theorem d_Mc_init_84 : decode b_Mc_init 84 = .ok (.dup, 1) := by decide +kernel
theorem d_Mc_init_85 : decode b_Mc_init 85 = .ok (.invokespecial 52, 3) := by decide +kernel
theorem d_Mc_init_88 : decode b_Mc_init 88 = .ok (.aastore, 1) := by decide +kernel
theorem d_Mc_init_89 : decode b_Mc_init 89 = .ok (.iinc 1 (1), 3) := by decide +kernel
theorem d_Mc_init_92 : decode b_Mc_init 92 = .ok (.goto (-21), 3) := by decide +kernel
theorem d_Mc_init_95 : decode b_Mc_init 95 = .ok (.iconst 0, 1) := by decide +kernel
theorem d_Mc_init_96 : decode b_Mc_init 96 = .ok (.istore_n 1, 1) := by decide +kernel
theorem d_Mc_init_97 : decode b_Mc_init 97 = .ok (.iload_n 1, 1) := by decide +kernel
theorem d_Mc_init_98 : decode b_Mc_init 98 = .ok (.bipush (6), 2) := by decide +kernel
theorem d_Mc_init_100 : decode b_Mc_init 100 = .ok (.if_icmp .ge (22), 3) := by decide +kernel
theorem d_Mc_init_103 : decode b_Mc_init 103 = .ok (.aload_n 0, 1) := by decide +kernel
theorem d_Mc_init_104 : decode b_Mc_init 104 = .ok (.getfield 19, 3) := by decide +kernel
theorem d_Mc_init_107 : decode b_Mc_init 107 = .ok (.iload_n 1, 1) := by decide +kernel
theorem d_Mc_init_108 : decode b_Mc_init 108 = .ok (.new 17, 3) := by decide +kernel
theorem d_Mc_init_111 : decode b_Mc_init 111 = .ok (.dup, 1) := by decide +kernel
theorem d_Mc_init_112 : decode b_Mc_init 112 = .ok (.invokespecial 53, 3) := by decide +kernel
theorem d_Mc_init_115 : decode b_Mc_init 115 = .ok (.aastore, 1) := by decide +kernel
theorem d_Mc_init_116 : decode b_Mc_init 116 = .ok (.iinc 1 (1), 3) := by decide +kernel
theorem d_Mc_init_119 : decode b_Mc_init 119 = .ok (.goto (-22), 3) := by decide +kernel
theorem d_Mc_init_122 : decode b_Mc_init 122 = .ok (.iconst 0, 1) := by decide +kernel
theorem d_Mc_init_123 : decode b_Mc_init 123 = .ok (.istore_n 1, 1) := by decide +kernel
theorem d_Mc_init_124 : decode b_Mc_init 124 = .ok (.iload_n 1, 1) := by decide +kernel
theorem d_Mc_init_125 : decode b_Mc_init 125 = .ok (.bipush (30), 2) := by decide +kernel
theorem d_Mc_init_127 : decode b_Mc_init 127 = .ok (.if_icmp .ge (22), 3) := by decide +kernel
theorem d_Mc_init_130 : decode b_Mc_init 130 = .ok (.aload_n 0, 1) := by decide +kernel
theorem d_Mc_init_131 : decode b_Mc_init 131 = .ok (.getfield 25, 3) := by decide +kernel
theorem d_Mc_init_134 : decode b_Mc_init 134 = .ok (.iload_n 1, 1) := by decide +kernel
theorem d_Mc_init_135 : decode b_Mc_init 135 = .ok (.new 23, 3) := by decide +kernel
theorem d_Mc_init_138 : decode b_Mc_init 138 = .ok (.dup, 1) := by decide +kernel
theorem d_Mc_init_139 : decode b_Mc_init 139 = .ok (.invokespecial 54, 3) := by decide +kernel
theorem d_Mc_init_142 : decode b_Mc_init 142 = .ok (.aastore, 1) := by decide +kernel
theorem d_Mc_init_143 : decode b_Mc_init 143 = .ok (.iinc 1 (1), 3) := by decide +kernel
theorem d_Mc_init_146 : decode b_Mc_init 146 = .ok (.goto (-22), 3) := by decide +kernel
theorem d_Mc_init_149 : decode b_Mc_init 149 = .ok (.iconst 0, 1) := by decide +kernel
theorem d_Mc_init_150 : decode b_Mc_init 150 = .ok (.istore_n 1, 1) := by decide +kernel
theorem d_Mc_init_151 : decode b_Mc_init 151 = .ok (.iload_n 1, 1) := by decide +kernel
theorem d_Mc_init_152 : decode b_Mc_init 152 = .ok (.bipush (8), 2) := by decide +kernel
theorem d_Mc_init_154 : decode b_Mc_init 154 = .ok (.if_icmp .gt (22), 3) := by decide +kernel
theorem d_Mc_init_157 : decode b_Mc_init 157 = .ok (.aload_n 0, 1) := by decide +kernel
theorem d_Mc_init_158 : decode b_Mc_init 158 = .ok (.getfield 31, 3) := by decide +kernel
theorem d_Mc_init_161 : decode b_Mc_init 161 = .ok (.iload_n 1, 1) := by decide +kernel
theorem d_Mc_init_162 : decode b_Mc_init 162 = .ok (.new 29, 3) := by decide +kernel
theorem d_Mc_init_165 : decode b_Mc_init 165 = .ok (.dup, 1) := by decide +kernel
theorem d_Mc_init_166 : decode b_Mc_init 166 = .ok (.invokespecial 55, 3) := by decide +kernel
theorem d_Mc_init_169 : decode b_Mc_init 169 = .ok (.aastore, 1) := by decide +kernel
theorem d_Mc_init_170 : decode b_Mc_init 170 = .ok (.iinc 1 (1), 3) := by decide +kernel
theorem d_Mc_init_173 : decode b_Mc_init 173 = .ok (.goto (-22), 3) := by decide +kernel
theorem d_Mc_init_176 : decode b_Mc_init 176 = .ok (.return_, 1) := by decide +kernel
theorem d_Mc_become_0 : decode b_Mc_become 0 = .ok (.aload_n 0, 1) := by decide +kernel
theorem d_Mc_become_1 : decode b_Mc_become 1 = .ok (.aload_n 1, 1) := by decide +kernel
theorem d_Mc_become_2 : decode b_Mc_become 2 = .ok (.getfield 56, 3) := by decide +kernel
theorem d_Mc_become_5 : decode b_Mc_become 5 = .ok (.putfield 56, 3) := by decide +kernel
theorem d_Mc_become_8 : decode b_Mc_become 8 = .ok (.aload_n 0, 1) := by decide +kernel
theorem d_Mc_become_9 : decode b_Mc_become 9 = .ok (.aload_n 1, 1) := by decide +kernel
theorem d_Mc_become_10 : decode b_Mc_become 10 = .ok (.getfield 59, 3) := by decide +kernel
theorem d_Mc_become_13 : decode b_Mc_become 13 = .ok (.putfield 59, 3) := by decide +kernel
theorem d_Mc_become_16 : decode b_Mc_become 16 = .ok (.aload_n 0, 1) := by decide +kernel
theorem d_Mc_become_17 : decode b_Mc_become 17 = .ok (.aload_n 1, 1) := by decide +kernel
theorem d_Mc_become_18 : decode b_Mc_become 18 = .ok (.getfield 62, 3) := by decide +kernel
theorem d_Mc_become_21 : decode b_Mc_become 21 = .ok (.putfield 62, 3) := by decide +kernel
theorem d_Mc_become_24 : decode b_Mc_become 24 = .ok (.aload_n 0, 1) := by decide +kernel
theorem d_Mc_become_25 : decode b_Mc_become 25 = .ok (.aload_n 1, 1) := by decide +kernel
theorem d_Mc_become_26 : decode b_Mc_become 26 = .ok (.getfield 65, 3) := by decide +kernel
theorem d_Mc_become_29 : decode b_Mc_become 29 = .ok (.putfield 65, 3) := by decide +kernel
theorem d_Mc_become_32 : decode b_Mc_become 32 = .ok (.aload_n 0, 1) := by decide +kernel
theorem d_Mc_become_33 : decode b_Mc_become 33 = .ok (.aload_n 1, 1) := by decide +kernel
theorem d_Mc_become_34 : decode b_Mc_become 34 = .ok (.getfield 68, 3) := by decide +kernel
theorem d_Mc_become_37 : decode b_Mc_become 37 = .ok (.putfield 68, 3) := by decide +kernel
theorem d_Mc_become_40 : decode b_Mc_become 40 = .ok (.aload_n 0, 1) := by decide +kernel
theorem d_Mc_become_41 : decode b_Mc_become 41 = .ok (.aload_n 1, 1) := by decide +kernel
theorem d_Mc_become_42 : decode b_Mc_become 42 = .ok (.getfield 35, 3) := by decide +kernel
theorem d_Mc_become_45 : decode b_Mc_become 45 = .ok (.putfield 35, 3) := by decide +kernel
theorem d_Mc_become_48 : decode b_Mc_become 48 = .ok (.aload_n 0, 1) := by decide +kernel
theorem d_Mc_become_49 : decode b_Mc_become 49 = .ok (.aload_n 1, 1) := by decide +kernel
theorem d_Mc_become_50 : decode b_Mc_become 50 = .ok (.getfield 39, 3) := by decide +kernel
theorem d_Mc_become_53 : decode b_Mc_become 53 = .ok (.putfield 39, 3) := by decide +kernel
theorem d_Mc_become_56 : decode b_Mc_become 56 = .ok (.aload_n 0, 1) := by decide +kernel
theorem d_Mc_become_57 : decode b_Mc_become 57 = .ok (.aload_n 1, 1) := by decide +kernel
theorem d_Mc_become_58 : decode b_Mc_become 58 = .ok (.getfield 71, 3) := by decide +kernel
theorem d_Mc_become_61 : decode b_Mc_become 61 = .ok (.putfield 71, 3) := by decide +kernel
theorem d_Mc_become_64 : decode b_Mc_become 64 = .ok (.iconst 0, 1) := by decide +kernel
theorem d_Mc_become_65 : decode b_Mc_become 65 = .ok (.istore_n 2, 1) := by decide +kernel
theorem d_Mc_become_66 : decode b_Mc_become 66 = .ok (.iload_n 2, 1) := by decide +kernel
theorem d_Mc_become_67 : decode b_Mc_become 67 = .ok (.aload_n 0, 1) := by decide +kernel
theorem d_Mc_become_68 : decode b_Mc_become 68 = .ok (.getfield 56, 3) := by decide +kernel
theorem d_Mc_become_71 : decode b_Mc_become 71 = .ok (.if_icmp .ge (24), 3) := by decide +kernel
theorem d_Mc_become_74 : decode b_Mc_become 74 = .ok (.aload_n 0, 1) := by decide +kernel
theorem d_Mc_become_75 : decode b_Mc_become 75 = .ok (.getfield 11, 3) := by decide +kernel
theorem d_Mc_become_78 : decode b_Mc_become 78 = .ok (.iload_n 2, 1) := by decide +kernel
theorem d_Mc_become_79 : decode b_Mc_become 79 = .ok (.aaload, 1) := by decide +kernel
theorem d_Mc_become_80 : decode b_Mc_become 80 = .ok (.aload_n 1, 1) := by decide +kernel
theorem d_Mc_become_81 : decode b_Mc_become 81 = .ok (.getfield 11, 3) := by decide +kernel
theorem d_Mc_become_84 : decode b_Mc_become 84 = .ok (.iload_n 2, 1) := by decide +kernel
theorem d_Mc_become_85 : decode b_Mc_become 85 = .ok (.aaload, 1) := by decide +kernel
theorem d_Mc_become_86 : decode b_Mc_become 86 = .ok (.invokevirtual 74, 3) := by decide +kernel
theorem d_Mc_become_89 : decode b_Mc_become 89 = .ok (.iinc 2 (1), 3) := by decide +kernel
theorem d_Mc_become_92 : decode b_Mc_become 92 = .ok (.goto (-26), 3) := by decide +kernel
theorem d_Mc_become_95 : decode b_Mc_become 95 = .ok (.iconst 0, 1) := by decide +kernel
theorem d_Mc_become_96 : decode b_Mc_become 96 = .ok (.istore_n 2, 1) := by decide +kernel
theorem d_Mc_become_97 : decode b_Mc_become 97 = .ok (.iload_n 2, 1) := by decide +kernel
theorem d_Mc_become_98 : decode b_Mc_become 98 = .ok (.aload_n 0, 1) := by decide +kernel
theorem d_Mc_become_99 : decode b_Mc_become 99 = .ok (.getfield 59, 3) := by decide +kernel
theorem d_Mc_become_102 : decode b_Mc_become 102 = .ok (.if_icmp .ge (24), 3) := by decide +kernel
theorem d_Mc_become_105 : decode b_Mc_become 105 = .ok (.aload_n 0, 1) := by decide +kernel
theorem d_Mc_become_106 : decode b_Mc_become 106 = .ok (.getfield 19, 3) := by decide +kernel
theorem d_Mc_become_109 : decode b_Mc_become 109 = .ok (.iload_n 2, 1) := by decide +kernel
theorem d_Mc_become_110 : decode b_Mc_become 110 = .ok (.aaload, 1) := by decide +kernel
theorem d_Mc_become_111 : decode b_Mc_become 111 = .ok (.aload_n 1, 1) := by decide +kernel
theorem d_Mc_become_112 : decode b_Mc_become 112 = .ok (.getfield 19, 3) := by decide +kernel
theorem d_Mc_become_115 : decode b_Mc_become 115 = .ok (.iload_n 2, 1) := by decide +kernel
theorem d_Mc_become_116 : decode b_Mc_become 116 = .ok (.aaload, 1) := by decide +kernel
theorem d_Mc_become_117 : decode b_Mc_become 117 = .ok (.invokevirtual 78, 3) := by decide +kernel
theorem d_Mc_become_120 : decode b_Mc_become 120 = .ok (.iinc 2 (1), 3) := by decide +kernel
theorem d_Mc_become_123 : decode b_Mc_become 123 = .ok (.goto (-26), 3) := by decide +kernel
theorem d_Mc_become_126 : decode b_Mc_become 126 = .ok (.iconst 0, 1) := by decide +kernel
theorem d_Mc_become_127 : decode b_Mc_become 127 = .ok (.istore_n 2, 1) := by decide +kernel
theorem d_Mc_become_128 : decode b_Mc_become 128 = .ok (.iload_n 2, 1) := by decide +kernel
theorem d_Mc_become_129 : decode b_Mc_become 129 = .ok (.aload_n 0, 1) := by decide +kernel
theorem d_Mc_become_130 : decode b_Mc_become 130 = .ok (.getfield 62, 3) := by decide +kernel
theorem d_Mc_become_133 : decode b_Mc_become 133 = .ok (.if_icmp .ge (24), 3) := by decide +kernel
theorem d_Mc_become_136 : decode b_Mc_become 136 = .ok (.aload_n 0, 1) := by decide +kernel
theorem d_Mc_become_137 : decode b_Mc_become 137 = .ok (.getfield 25, 3) := by decide +kernel
theorem d_Mc_become_140 : decode b_Mc_become 140 = .ok (.iload_n 2, 1) := by decide +kernel
theorem d_Mc_become_141 : decode b_Mc_become 141 = .ok (.aaload, 1) := by decide +kernel
theorem d_Mc_become_142 : decode b_Mc_become 142 = .ok (.aload_n 1, 1) := by decide +kernel
theorem d_Mc_become_143 : decode b_Mc_become 143 = .ok (.getfield 25, 3) := by decide +kernel
theorem d_Mc_become_146 : decode b_Mc_become 146 = .ok (.iload_n 2, 1) := by decide +kernel
theorem d_Mc_become_147 : decode b_Mc_become 147 = .ok (.aaload, 1) := by decide +kernel
theorem d_Mc_become_148 : decode b_Mc_become 148 = .ok (.invokevirtual 81, 3) := by decide +kernel
theorem d_Mc_become_151 : decode b_Mc_become 151 = .ok (.iinc 2 (1), 3) := by decide +kernel
theorem d_Mc_become_154 : decode b_Mc_become 154 = .ok (.goto (-26), 3) := by decide +kernel
theorem d_Mc_become_157 : decode b_Mc_become 157 = .ok (.iconst 0, 1) := by decide +kernel
theorem d_Mc_become_158 : decode b_Mc_become 158 = .ok (.istore_n 2, 1) := by decide +kernel
theorem d_Mc_become_159 : decode b_Mc_become 159 = .ok (.iload_n 2, 1) := by decide +kernel
theorem d_Mc_become_160 : decode b_Mc_become 160 = .ok (.aload_n 0, 1) := by decide +kernel
theorem d_Mc_become_161 : decode b_Mc_become 161 = .ok (.getfield 65, 3) := by decide +kernel
theorem d_Mc_become_164 : decode b_Mc_become 164 = .ok (.if_icmp .ge (24), 3) := by decide +kernel
theorem d_Mc_become_167 : decode b_Mc_become 167 = .ok (.aload_n 0, 1) := by decide +kernel
theorem d_Mc_become_168 : decode b_Mc_become 168 = .ok (.getfield 31, 3) := by decide +kernel
theorem d_Mc_become_171 : decode b_Mc_become 171 = .ok (.iload_n 2, 1) := by decide +kernel
theorem d_Mc_become_172 : decode b_Mc_become 172 = .ok (.aaload, 1) := by decide +kernel
theorem d_Mc_become_173 : decode b_Mc_become 173 = .ok (.aload_n 1, 1) := by decide +kernel
theorem d_Mc_become_174 : decode b_Mc_become 174 = .ok (.getfield 31, 3) := by decide +kernel
theorem d_Mc_become_177 : decode b_Mc_become 177 = .ok (.iload_n 2, 1) := by decide +kernel
theorem d_Mc_become_178 : decode b_Mc_become 178 = .ok (.aaload, 1) := by decide +kernel
theorem d_Mc_become_179 : decode b_Mc_become 179 = .ok (.invokevirtual 84, 3) := by decide +kernel
theorem d_Mc_become_182 : decode b_Mc_become 182 = .ok (.iinc 2 (1), 3) := by decide +kernel
theorem d_Mc_become_185 : decode b_Mc_become 185 = .ok (.goto (-26), 3) := by decide +kernel
theorem d_Mc_become_188 : decode b_Mc_become 188 = .ok (.return_, 1) := by decide +kernel
theorem d_Mc_hasRack_0 : decode b_Mc_hasRack 0 = .ok (.iload_n 1, 1) := by decide +kernel
theorem d_Mc_hasRack_1 : decode b_Mc_hasRack 1 = .ok (.ifCond .lt (15), 3) := by decide +kernel
theorem d_Mc_hasRack_4 : decode b_Mc_hasRack 4 = .ok (.iload_n 1, 1) := by decide +kernel
theorem d_Mc_hasRack_5 : decode b_Mc_hasRack 5 = .ok (.aload_n 0, 1) := by decide +kernel
theorem d_Mc_hasRack_6 : decode b_Mc_hasRack 6 = .ok (.getfield 56, 3) := by decide +kernel
theorem d_Mc_hasRack_9 : decode b_Mc_hasRack 9 = .ok (.if_icmp .ge (7), 3) := by decide +kernel
theorem d_Mc_hasRack_12 : decode b_Mc_hasRack 12 = .ok (.iconst 1, 1) := by decide +kernel
theorem d_Mc_hasRack_13 : decode b_Mc_hasRack 13 = .ok (.goto (4), 3) := by decide +kernel
theorem d_Mc_hasRack_16 : decode b_Mc_hasRack 16 = .ok (.iconst 0, 1) := by decide +kernel
theorem d_Mc_hasRack_17 : decode b_Mc_hasRack 17 = .ok (.ireturn, 1) := by decide +kernel
theorem d_Mc_hasAccount_0 : decode b_Mc_hasAccount 0 = .ok (.iload_n 1, 1) := by decide +kernel
theorem d_Mc_hasAccount_1 : decode b_Mc_hasAccount 1 = .ok (.ifCond .lt (15), 3) := by decide +kernel
theorem d_Mc_hasAccount_4 : decode b_Mc_hasAccount 4 = .ok (.iload_n 1, 1) := by decide +kernel
theorem d_Mc_hasAccount_5 : decode b_Mc_hasAccount 5 = .ok (.aload_n 0, 1) := by decide +kernel
theorem d_Mc_hasAccount_6 : decode b_Mc_hasAccount 6 = .ok (.getfield 59, 3) := by decide +kernel
theorem d_Mc_hasAccount_9 : decode b_Mc_hasAccount 9 = .ok (.if_icmp .ge (7), 3) := by decide +kernel
theorem d_Mc_hasAccount_12 : decode b_Mc_hasAccount 12 = .ok (.iconst 1, 1) := by decide +kernel
theorem d_Mc_hasAccount_13 : decode b_Mc_hasAccount 13 = .ok (.goto (4), 3) := by decide +kernel
theorem d_Mc_hasAccount_16 : decode b_Mc_hasAccount 16 = .ok (.iconst 0, 1) := by decide +kernel
theorem d_Mc_hasAccount_17 : decode b_Mc_hasAccount 17 = .ok (.ireturn, 1) := by decide +kernel
theorem d_Mc_hasJob_0 : decode b_Mc_hasJob 0 = .ok (.iload_n 1, 1) := by decide +kernel
theorem d_Mc_hasJob_1 : decode b_Mc_hasJob 1 = .ok (.ifCond .lt (15), 3) := by decide +kernel
theorem d_Mc_hasJob_4 : decode b_Mc_hasJob 4 = .ok (.iload_n 1, 1) := by decide +kernel
theorem d_Mc_hasJob_5 : decode b_Mc_hasJob 5 = .ok (.aload_n 0, 1) := by decide +kernel
theorem d_Mc_hasJob_6 : decode b_Mc_hasJob 6 = .ok (.getfield 62, 3) := by decide +kernel
theorem d_Mc_hasJob_9 : decode b_Mc_hasJob 9 = .ok (.if_icmp .ge (7), 3) := by decide +kernel
theorem d_Mc_hasJob_12 : decode b_Mc_hasJob 12 = .ok (.iconst 1, 1) := by decide +kernel
theorem d_Mc_hasJob_13 : decode b_Mc_hasJob 13 = .ok (.goto (4), 3) := by decide +kernel
theorem d_Mc_hasJob_16 : decode b_Mc_hasJob 16 = .ok (.iconst 0, 1) := by decide +kernel
theorem d_Mc_hasJob_17 : decode b_Mc_hasJob 17 = .ok (.ireturn, 1) := by decide +kernel
theorem d_Mc_addRack_0 : decode b_Mc_addRack 0 = .ok (.aload_n 0, 1) := by decide +kernel
theorem d_Mc_addRack_1 : decode b_Mc_addRack 1 = .ok (.getfield 56, 3) := by decide +kernel
theorem d_Mc_addRack_4 : decode b_Mc_addRack 4 = .ok (.istore_n 2, 1) := by decide +kernel
theorem d_Mc_addRack_5 : decode b_Mc_addRack 5 = .ok (.aload_n 0, 1) := by decide +kernel
theorem d_Mc_addRack_6 : decode b_Mc_addRack 6 = .ok (.getfield 11, 3) := by decide +kernel
theorem d_Mc_addRack_9 : decode b_Mc_addRack 9 = .ok (.iload_n 2, 1) := by decide +kernel
theorem d_Mc_addRack_10 : decode b_Mc_addRack 10 = .ok (.aaload, 1) := by decide +kernel
theorem d_Mc_addRack_11 : decode b_Mc_addRack 11 = .ok (.iload_n 1, 1) := by decide +kernel
theorem d_Mc_addRack_12 : decode b_Mc_addRack 12 = .ok (.putfield 87, 3) := by decide +kernel
theorem d_Mc_addRack_15 : decode b_Mc_addRack 15 = .ok (.aload_n 0, 1) := by decide +kernel
theorem d_Mc_addRack_16 : decode b_Mc_addRack 16 = .ok (.getfield 11, 3) := by decide +kernel
theorem d_Mc_addRack_19 : decode b_Mc_addRack 19 = .ok (.iload_n 2, 1) := by decide +kernel
theorem d_Mc_addRack_20 : decode b_Mc_addRack 20 = .ok (.aaload, 1) := by decide +kernel
theorem d_Mc_addRack_21 : decode b_Mc_addRack 21 = .ok (.iload_n 1, 1) := by decide +kernel
theorem d_Mc_addRack_22 : decode b_Mc_addRack 22 = .ok (.putfield 90, 3) := by decide +kernel
theorem d_Mc_addRack_25 : decode b_Mc_addRack 25 = .ok (.aload_n 0, 1) := by decide +kernel
theorem d_Mc_addRack_26 : decode b_Mc_addRack 26 = .ok (.dup, 1) := by decide +kernel
theorem d_Mc_addRack_27 : decode b_Mc_addRack 27 = .ok (.getfield 56, 3) := by decide +kernel
theorem d_Mc_addRack_30 : decode b_Mc_addRack 30 = .ok (.iconst 1, 1) := by decide +kernel
theorem d_Mc_addRack_31 : decode b_Mc_addRack 31 = .ok (.iadd, 1) := by decide +kernel
theorem d_Mc_addRack_32 : decode b_Mc_addRack 32 = .ok (.putfield 56, 3) := by decide +kernel
theorem d_Mc_addRack_35 : decode b_Mc_addRack 35 = .ok (.aload_n 0, 1) := by decide +kernel
theorem d_Mc_addRack_36 : decode b_Mc_addRack 36 = .ok (.invokevirtual 93, 3) := by decide +kernel
theorem d_Mc_addRack_39 : decode b_Mc_addRack 39 = .ok (.iload_n 2, 1) := by decide +kernel
theorem d_Mc_addRack_40 : decode b_Mc_addRack 40 = .ok (.ireturn, 1) := by decide +kernel
theorem d_Mc_addAccount_0 : decode b_Mc_addAccount 0 = .ok (.aload_n 0, 1) := by decide +kernel
theorem d_Mc_addAccount_1 : decode b_Mc_addAccount 1 = .ok (.getfield 59, 3) := by decide +kernel
theorem d_Mc_addAccount_4 : decode b_Mc_addAccount 4 = .ok (.istore_n 2, 1) := by decide +kernel
theorem d_Mc_addAccount_5 : decode b_Mc_addAccount 5 = .ok (.aload_n 0, 1) := by decide +kernel
theorem d_Mc_addAccount_6 : decode b_Mc_addAccount 6 = .ok (.getfield 19, 3) := by decide +kernel
theorem d_Mc_addAccount_9 : decode b_Mc_addAccount 9 = .ok (.iload_n 2, 1) := by decide +kernel
theorem d_Mc_addAccount_10 : decode b_Mc_addAccount 10 = .ok (.aaload, 1) := by decide +kernel
theorem d_Mc_addAccount_11 : decode b_Mc_addAccount 11 = .ok (.iload_n 1, 1) := by decide +kernel
theorem d_Mc_addAccount_12 : decode b_Mc_addAccount 12 = .ok (.putfield 96, 3) := by decide +kernel
theorem d_Mc_addAccount_15 : decode b_Mc_addAccount 15 = .ok (.aload_n 0, 1) := by decide +kernel
theorem d_Mc_addAccount_16 : decode b_Mc_addAccount 16 = .ok (.dup, 1) := by decide +kernel
theorem d_Mc_addAccount_17 : decode b_Mc_addAccount 17 = .ok (.getfield 59, 3) := by decide +kernel
theorem d_Mc_addAccount_20 : decode b_Mc_addAccount 20 = .ok (.iconst 1, 1) := by decide +kernel
theorem d_Mc_addAccount_21 : decode b_Mc_addAccount 21 = .ok (.iadd, 1) := by decide +kernel
theorem d_Mc_addAccount_22 : decode b_Mc_addAccount 22 = .ok (.putfield 59, 3) := by decide +kernel
theorem d_Mc_addAccount_25 : decode b_Mc_addAccount 25 = .ok (.iload_n 2, 1) := by decide +kernel
theorem d_Mc_addAccount_26 : decode b_Mc_addAccount 26 = .ok (.ireturn, 1) := by decide +kernel
theorem d_Mc_dropBooking_0 : decode b_Mc_dropBooking 0 = .ok (.iload_n 1, 1) := by decide +kernel
theorem d_Mc_dropBooking_1 : decode b_Mc_dropBooking 1 = .ok (.istore_n 2, 1) := by decide +kernel
theorem d_Mc_dropBooking_2 : decode b_Mc_dropBooking 2 = .ok (.iload_n 2, 1) := by decide +kernel
theorem d_Mc_dropBooking_3 : decode b_Mc_dropBooking 3 = .ok (.iconst 1, 1) := by decide +kernel
theorem d_Mc_dropBooking_4 : decode b_Mc_dropBooking 4 = .ok (.iadd, 1) := by decide +kernel
theorem d_Mc_dropBooking_5 : decode b_Mc_dropBooking 5 = .ok (.aload_n 0, 1) := by decide +kernel
theorem d_Mc_dropBooking_6 : decode b_Mc_dropBooking 6 = .ok (.getfield 65, 3) := by decide +kernel
theorem d_Mc_dropBooking_9 : decode b_Mc_dropBooking 9 = .ok (.if_icmp .ge (26), 3) := by decide +kernel
theorem d_Mc_dropBooking_12 : decode b_Mc_dropBooking 12 = .ok (.aload_n 0, 1) := by decide +kernel
theorem d_Mc_dropBooking_13 : decode b_Mc_dropBooking 13 = .ok (.getfield 31, 3) := by decide +kernel
theorem d_Mc_dropBooking_16 : decode b_Mc_dropBooking 16 = .ok (.iload_n 2, 1) := by decide +kernel
theorem d_Mc_dropBooking_17 : decode b_Mc_dropBooking 17 = .ok (.aaload, 1) := by decide +kernel
theorem d_Mc_dropBooking_18 : decode b_Mc_dropBooking 18 = .ok (.aload_n 0, 1) := by decide +kernel
theorem d_Mc_dropBooking_19 : decode b_Mc_dropBooking 19 = .ok (.getfield 31, 3) := by decide +kernel
theorem d_Mc_dropBooking_22 : decode b_Mc_dropBooking 22 = .ok (.iload_n 2, 1) := by decide +kernel
theorem d_Mc_dropBooking_23 : decode b_Mc_dropBooking 23 = .ok (.iconst 1, 1) := by decide +kernel
theorem d_Mc_dropBooking_24 : decode b_Mc_dropBooking 24 = .ok (.iadd, 1) := by decide +kernel
theorem d_Mc_dropBooking_25 : decode b_Mc_dropBooking 25 = .ok (.aaload, 1) := by decide +kernel
theorem d_Mc_dropBooking_26 : decode b_Mc_dropBooking 26 = .ok (.invokevirtual 84, 3) := by decide +kernel
theorem d_Mc_dropBooking_29 : decode b_Mc_dropBooking 29 = .ok (.iinc 2 (1), 3) := by decide +kernel
theorem d_Mc_dropBooking_32 : decode b_Mc_dropBooking 32 = .ok (.goto (-30), 3) := by decide +kernel
theorem d_Mc_dropBooking_35 : decode b_Mc_dropBooking 35 = .ok (.aload_n 0, 1) := by decide +kernel
theorem d_Mc_dropBooking_36 : decode b_Mc_dropBooking 36 = .ok (.dup, 1) := by decide +kernel
theorem d_Mc_dropBooking_37 : decode b_Mc_dropBooking 37 = .ok (.getfield 65, 3) := by decide +kernel
theorem d_Mc_dropBooking_40 : decode b_Mc_dropBooking 40 = .ok (.iconst 1, 1) := by decide +kernel
theorem d_Mc_dropBooking_41 : decode b_Mc_dropBooking 41 = .ok (.isub, 1) := by decide +kernel
theorem d_Mc_dropBooking_42 : decode b_Mc_dropBooking 42 = .ok (.putfield 65, 3) := by decide +kernel
theorem d_Mc_dropBooking_45 : decode b_Mc_dropBooking 45 = .ok (.return_, 1) := by decide +kernel
theorem d_Mc_jobsThatAre_0 : decode b_Mc_jobsThatAre 0 = .ok (.iconst 0, 1) := by decide +kernel
theorem d_Mc_jobsThatAre_1 : decode b_Mc_jobsThatAre 1 = .ok (.istore_n 2, 1) := by decide +kernel
theorem d_Mc_jobsThatAre_2 : decode b_Mc_jobsThatAre 2 = .ok (.iconst 0, 1) := by decide +kernel
theorem d_Mc_jobsThatAre_3 : decode b_Mc_jobsThatAre 3 = .ok (.istore_n 3, 1) := by decide +kernel
theorem d_Mc_jobsThatAre_4 : decode b_Mc_jobsThatAre 4 = .ok (.iload_n 3, 1) := by decide +kernel
theorem d_Mc_jobsThatAre_5 : decode b_Mc_jobsThatAre 5 = .ok (.aload_n 0, 1) := by decide +kernel
theorem d_Mc_jobsThatAre_6 : decode b_Mc_jobsThatAre 6 = .ok (.getfield 62, 3) := by decide +kernel
theorem d_Mc_jobsThatAre_9 : decode b_Mc_jobsThatAre 9 = .ok (.if_icmp .ge (25), 3) := by decide +kernel
theorem d_Mc_jobsThatAre_12 : decode b_Mc_jobsThatAre 12 = .ok (.aload_n 0, 1) := by decide +kernel
theorem d_Mc_jobsThatAre_13 : decode b_Mc_jobsThatAre 13 = .ok (.getfield 25, 3) := by decide +kernel
theorem d_Mc_jobsThatAre_16 : decode b_Mc_jobsThatAre 16 = .ok (.iload_n 3, 1) := by decide +kernel
theorem d_Mc_jobsThatAre_17 : decode b_Mc_jobsThatAre 17 = .ok (.aaload, 1) := by decide +kernel
theorem d_Mc_jobsThatAre_18 : decode b_Mc_jobsThatAre 18 = .ok (.getfield 99, 3) := by decide +kernel
theorem d_Mc_jobsThatAre_21 : decode b_Mc_jobsThatAre 21 = .ok (.iload_n 1, 1) := by decide +kernel
theorem d_Mc_jobsThatAre_22 : decode b_Mc_jobsThatAre 22 = .ok (.if_icmp .ne (6), 3) := by decide +kernel
theorem d_Mc_jobsThatAre_25 : decode b_Mc_jobsThatAre 25 = .ok (.iinc 2 (1), 3) := by decide +kernel
theorem d_Mc_jobsThatAre_28 : decode b_Mc_jobsThatAre 28 = .ok (.iinc 3 (1), 3) := by decide +kernel
theorem d_Mc_jobsThatAre_31 : decode b_Mc_jobsThatAre 31 = .ok (.goto (-27), 3) := by decide +kernel
theorem d_Mc_jobsThatAre_34 : decode b_Mc_jobsThatAre 34 = .ok (.iload_n 2, 1) := by decide +kernel
theorem d_Mc_jobsThatAre_35 : decode b_Mc_jobsThatAre 35 = .ok (.ireturn, 1) := by decide +kernel
theorem d_Mc_recount_0 : decode b_Mc_recount 0 = .ok (.aload_n 0, 1) := by decide +kernel
theorem d_Mc_recount_1 : decode b_Mc_recount 1 = .ok (.iconst 0, 1) := by decide +kernel
theorem d_Mc_recount_2 : decode b_Mc_recount 2 = .ok (.putfield 71, 3) := by decide +kernel
theorem d_Mc_recount_5 : decode b_Mc_recount 5 = .ok (.iconst 0, 1) := by decide +kernel
theorem d_Mc_recount_6 : decode b_Mc_recount 6 = .ok (.istore_n 1, 1) := by decide +kernel
theorem d_Mc_recount_7 : decode b_Mc_recount 7 = .ok (.iload_n 1, 1) := by decide +kernel
theorem d_Mc_recount_8 : decode b_Mc_recount 8 = .ok (.aload_n 0, 1) := by decide +kernel
theorem d_Mc_recount_9 : decode b_Mc_recount 9 = .ok (.getfield 56, 3) := by decide +kernel
theorem d_Mc_recount_12 : decode b_Mc_recount 12 = .ok (.if_icmp .ge (43), 3) := by decide +kernel
theorem d_Mc_recount_15 : decode b_Mc_recount 15 = .ok (.aload_n 0, 1) := by decide +kernel
theorem d_Mc_recount_16 : decode b_Mc_recount 16 = .ok (.dup, 1) := by decide +kernel
theorem d_Mc_recount_17 : decode b_Mc_recount 17 = .ok (.getfield 71, 3) := by decide +kernel
theorem d_Mc_recount_20 : decode b_Mc_recount 20 = .ok (.aload_n 0, 1) := by decide +kernel
theorem d_Mc_recount_21 : decode b_Mc_recount 21 = .ok (.getfield 11, 3) := by decide +kernel
theorem d_Mc_recount_24 : decode b_Mc_recount 24 = .ok (.iload_n 1, 1) := by decide +kernel
theorem d_Mc_recount_25 : decode b_Mc_recount 25 = .ok (.aaload, 1) := by decide +kernel
theorem d_Mc_recount_26 : decode b_Mc_recount 26 = .ok (.getfield 102, 3) := by decide +kernel
theorem d_Mc_recount_29 : decode b_Mc_recount 29 = .ok (.ifCond .eq (7), 3) := by decide +kernel
theorem d_Mc_recount_32 : decode b_Mc_recount 32 = .ok (.iconst 0, 1) := by decide +kernel
theorem d_Mc_recount_33 : decode b_Mc_recount 33 = .ok (.goto (12), 3) := by decide +kernel
theorem d_Mc_recount_36 : decode b_Mc_recount 36 = .ok (.aload_n 0, 1) := by decide +kernel
theorem d_Mc_recount_37 : decode b_Mc_recount 37 = .ok (.getfield 11, 3) := by decide +kernel
theorem d_Mc_recount_40 : decode b_Mc_recount 40 = .ok (.iload_n 1, 1) := by decide +kernel
theorem d_Mc_recount_41 : decode b_Mc_recount 41 = .ok (.aaload, 1) := by decide +kernel
theorem d_Mc_recount_42 : decode b_Mc_recount 42 = .ok (.getfield 87, 3) := by decide +kernel
theorem d_Mc_recount_45 : decode b_Mc_recount 45 = .ok (.iadd, 1) := by decide +kernel
theorem d_Mc_recount_46 : decode b_Mc_recount 46 = .ok (.putfield 71, 3) := by decide +kernel
theorem d_Mc_recount_49 : decode b_Mc_recount 49 = .ok (.iinc 1 (1), 3) := by decide +kernel
theorem d_Mc_recount_52 : decode b_Mc_recount 52 = .ok (.goto (-45), 3) := by decide +kernel
theorem d_Mc_recount_55 : decode b_Mc_recount 55 = .ok (.iconst 0, 1) := by decide +kernel
theorem d_Mc_recount_56 : decode b_Mc_recount 56 = .ok (.istore_n 1, 1) := by decide +kernel
theorem d_Mc_recount_57 : decode b_Mc_recount 57 = .ok (.iload_n 1, 1) := by decide +kernel
theorem d_Mc_recount_58 : decode b_Mc_recount 58 = .ok (.aload_n 0, 1) := by decide +kernel
theorem d_Mc_recount_59 : decode b_Mc_recount 59 = .ok (.getfield 62, 3) := by decide +kernel
theorem d_Mc_recount_62 : decode b_Mc_recount 62 = .ok (.if_icmp .ge (28), 3) := by decide +kernel
theorem d_Mc_recount_65 : decode b_Mc_recount 65 = .ok (.aload_n 0, 1) := by decide +kernel
theorem d_Mc_recount_66 : decode b_Mc_recount 66 = .ok (.getfield 25, 3) := by decide +kernel
theorem d_Mc_recount_69 : decode b_Mc_recount 69 = .ok (.iload_n 1, 1) := by decide +kernel
theorem d_Mc_recount_70 : decode b_Mc_recount 70 = .ok (.aaload, 1) := by decide +kernel
theorem d_Mc_recount_71 : decode b_Mc_recount 71 = .ok (.aload_n 0, 1) := by decide +kernel
theorem d_Mc_recount_72 : decode b_Mc_recount 72 = .ok (.aload_n 0, 1) := by decide +kernel
theorem d_Mc_recount_73 : decode b_Mc_recount 73 = .ok (.getfield 25, 3) := by decide +kernel
theorem d_Mc_recount_76 : decode b_Mc_recount 76 = .ok (.iload_n 1, 1) := by decide +kernel
theorem d_Mc_recount_77 : decode b_Mc_recount 77 = .ok (.aaload, 1) := by decide +kernel
theorem d_Mc_recount_78 : decode b_Mc_recount 78 = .ok (.invokevirtual 106, 3) := by decide +kernel
theorem d_Mc_recount_81 : decode b_Mc_recount 81 = .ok (.putfield 110, 3) := by decide +kernel
theorem d_Mc_recount_84 : decode b_Mc_recount 84 = .ok (.iinc 1 (1), 3) := by decide +kernel
theorem d_Mc_recount_87 : decode b_Mc_recount 87 = .ok (.goto (-30), 3) := by decide +kernel
theorem d_Mc_recount_90 : decode b_Mc_recount 90 = .ok (.return_, 1) := by decide +kernel
theorem d_Mc_countedOf_0 : decode b_Mc_countedOf 0 = .ok (.iconst 0, 1) := by decide +kernel
theorem d_Mc_countedOf_1 : decode b_Mc_countedOf 1 = .ok (.istore_n 2, 1) := by decide +kernel
theorem d_Mc_countedOf_2 : decode b_Mc_countedOf 2 = .ok (.iconst 0, 1) := by decide +kernel
theorem d_Mc_countedOf_3 : decode b_Mc_countedOf 3 = .ok (.istore_n 3, 1) := by decide +kernel
theorem d_Mc_countedOf_4 : decode b_Mc_countedOf 4 = .ok (.iload_n 3, 1) := by decide +kernel
theorem d_Mc_countedOf_5 : decode b_Mc_countedOf 5 = .ok (.aload_n 0, 1) := by decide +kernel
theorem d_Mc_countedOf_6 : decode b_Mc_countedOf 6 = .ok (.getfield 56, 3) := by decide +kernel
theorem d_Mc_countedOf_9 : decode b_Mc_countedOf 9 = .ok (.if_icmp .ge (34), 3) := by decide +kernel
theorem d_Mc_countedOf_12 : decode b_Mc_countedOf 12 = .ok (.iload_n 2, 1) := by decide +kernel
theorem d_Mc_countedOf_13 : decode b_Mc_countedOf 13 = .ok (.aload_n 0, 1) := by decide +kernel
theorem d_Mc_countedOf_14 : decode b_Mc_countedOf 14 = .ok (.getfield 11, 3) := by decide +kernel
theorem d_Mc_countedOf_17 : decode b_Mc_countedOf 17 = .ok (.iload_n 3, 1) := by decide +kernel
theorem d_Mc_countedOf_18 : decode b_Mc_countedOf 18 = .ok (.aaload, 1) := by decide +kernel
theorem d_Mc_countedOf_19 : decode b_Mc_countedOf 19 = .ok (.getfield 102, 3) := by decide +kernel
theorem d_Mc_countedOf_22 : decode b_Mc_countedOf 22 = .ok (.ifCond .eq (7), 3) := by decide +kernel
theorem d_Mc_countedOf_25 : decode b_Mc_countedOf 25 = .ok (.iconst 0, 1) := by decide +kernel
theorem d_Mc_countedOf_26 : decode b_Mc_countedOf 26 = .ok (.goto (9), 3) := by decide +kernel
theorem d_Mc_countedOf_29 : decode b_Mc_countedOf 29 = .ok (.aload_n 1, 1) := by decide +kernel
theorem d_Mc_countedOf_30 : decode b_Mc_countedOf 30 = .ok (.getfield 113, 3) := by decide +kernel
theorem d_Mc_countedOf_33 : decode b_Mc_countedOf 33 = .ok (.iload_n 3, 1) := by decide +kernel
theorem d_Mc_countedOf_34 : decode b_Mc_countedOf 34 = .ok (.iaload, 1) := by decide +kernel
theorem d_Mc_countedOf_35 : decode b_Mc_countedOf 35 = .ok (.iadd, 1) := by decide +kernel
theorem d_Mc_countedOf_36 : decode b_Mc_countedOf 36 = .ok (.istore_n 2, 1) := by decide +kernel
theorem d_Mc_countedOf_37 : decode b_Mc_countedOf 37 = .ok (.iinc 3 (1), 3) := by decide +kernel
theorem d_Mc_countedOf_40 : decode b_Mc_countedOf 40 = .ok (.goto (-36), 3) := by decide +kernel
theorem d_Mc_countedOf_43 : decode b_Mc_countedOf 43 = .ok (.iload_n 2, 1) := by decide +kernel
theorem d_Mc_countedOf_44 : decode b_Mc_countedOf 44 = .ok (.ireturn, 1) := by decide +kernel
theorem d_Mc_breakRack_0 : decode b_Mc_breakRack 0 = .ok (.iconst 0, 1) := by decide +kernel
theorem d_Mc_breakRack_1 : decode b_Mc_breakRack 1 = .ok (.istore_n 2, 1) := by decide +kernel
theorem d_Mc_breakRack_2 : decode b_Mc_breakRack 2 = .ok (.iconst 0, 1) := by decide +kernel
theorem d_Mc_breakRack_3 : decode b_Mc_breakRack 3 = .ok (.istore_n 3, 1) := by decide +kernel
theorem d_Mc_breakRack_4 : decode b_Mc_breakRack 4 = .ok (.iload_n 3, 1) := by decide +kernel
theorem d_Mc_breakRack_5 : decode b_Mc_breakRack 5 = .ok (.aload_n 0, 1) := by decide +kernel
theorem d_Mc_breakRack_6 : decode b_Mc_breakRack 6 = .ok (.getfield 62, 3) := by decide +kernel
theorem d_Mc_breakRack_9 : decode b_Mc_breakRack 9 = .ok (.if_icmp .ge (51), 3) := by decide +kernel
theorem d_Mc_breakRack_12 : decode b_Mc_breakRack 12 = .ok (.aload_n 0, 1) := by decide +kernel
theorem d_Mc_breakRack_13 : decode b_Mc_breakRack 13 = .ok (.getfield 25, 3) := by decide +kernel
theorem d_Mc_breakRack_16 : decode b_Mc_breakRack 16 = .ok (.iload_n 3, 1) := by decide +kernel
theorem d_Mc_breakRack_17 : decode b_Mc_breakRack 17 = .ok (.aaload, 1) := by decide +kernel
theorem d_Mc_breakRack_18 : decode b_Mc_breakRack 18 = .ok (.astore 4, 2) := by decide +kernel
theorem d_Mc_breakRack_20 : decode b_Mc_breakRack 20 = .ok (.aload 4, 2) := by decide +kernel
theorem d_Mc_breakRack_22 : decode b_Mc_breakRack 22 = .ok (.getfield 113, 3) := by decide +kernel
theorem d_Mc_breakRack_25 : decode b_Mc_breakRack 25 = .ok (.iload_n 1, 1) := by decide +kernel
theorem d_Mc_breakRack_26 : decode b_Mc_breakRack 26 = .ok (.iaload, 1) := by decide +kernel
theorem d_Mc_breakRack_27 : decode b_Mc_breakRack 27 = .ok (.ifCond .le (27), 3) := by decide +kernel
theorem d_Mc_breakRack_30 : decode b_Mc_breakRack 30 = .ok (.aload 4, 2) := by decide +kernel
theorem d_Mc_breakRack_32 : decode b_Mc_breakRack 32 = .ok (.aload_n 0, 1) := by decide +kernel
theorem d_Mc_breakRack_33 : decode b_Mc_breakRack 33 = .ok (.getfield 68, 3) := by decide +kernel
theorem d_Mc_breakRack_36 : decode b_Mc_breakRack 36 = .ok (.invokevirtual 116, 3) := by decide +kernel
theorem d_Mc_breakRack_39 : decode b_Mc_breakRack 39 = .ok (.aload_n 0, 1) := by decide +kernel
theorem d_Mc_breakRack_40 : decode b_Mc_breakRack 40 = .ok (.aload 4, 2) := by decide +kernel
theorem d_Mc_breakRack_42 : decode b_Mc_breakRack 42 = .ok (.invokevirtual 120, 3) := by decide +kernel
theorem d_Mc_breakRack_45 : decode b_Mc_breakRack 45 = .ok (.aload 4, 2) := by decide +kernel
theorem d_Mc_breakRack_47 : decode b_Mc_breakRack 47 = .ok (.iconst 0, 1) := by decide +kernel
theorem d_Mc_breakRack_48 : decode b_Mc_breakRack 48 = .ok (.putfield 99, 3) := by decide +kernel
theorem d_Mc_breakRack_51 : decode b_Mc_breakRack 51 = .ok (.iinc 2 (1), 3) := by decide +kernel
theorem d_Mc_breakRack_54 : decode b_Mc_breakRack 54 = .ok (.iinc 3 (1), 3) := by decide +kernel
theorem d_Mc_breakRack_57 : decode b_Mc_breakRack 57 = .ok (.goto (-53), 3) := by decide +kernel
theorem d_Mc_breakRack_60 : decode b_Mc_breakRack 60 = .ok (.iload_n 2, 1) := by decide +kernel
theorem d_Mc_breakRack_61 : decode b_Mc_breakRack 61 = .ok (.ireturn, 1) := by decide +kernel
theorem d_Mc_leaveNodes_0 : decode b_Mc_leaveNodes 0 = .ok (.iconst 0, 1) := by decide +kernel
theorem d_Mc_leaveNodes_1 : decode b_Mc_leaveNodes 1 = .ok (.istore_n 2, 1) := by decide +kernel
theorem d_Mc_leaveNodes_2 : decode b_Mc_leaveNodes 2 = .ok (.iload_n 2, 1) := by decide +kernel
theorem d_Mc_leaveNodes_3 : decode b_Mc_leaveNodes 3 = .ok (.aload_n 0, 1) := by decide +kernel
theorem d_Mc_leaveNodes_4 : decode b_Mc_leaveNodes 4 = .ok (.getfield 56, 3) := by decide +kernel
theorem d_Mc_leaveNodes_7 : decode b_Mc_leaveNodes 7 = .ok (.if_icmp .ge (36), 3) := by decide +kernel
theorem d_Mc_leaveNodes_10 : decode b_Mc_leaveNodes 10 = .ok (.aload_n 0, 1) := by decide +kernel
theorem d_Mc_leaveNodes_11 : decode b_Mc_leaveNodes 11 = .ok (.getfield 11, 3) := by decide +kernel
theorem d_Mc_leaveNodes_14 : decode b_Mc_leaveNodes 14 = .ok (.iload_n 2, 1) := by decide +kernel
theorem d_Mc_leaveNodes_15 : decode b_Mc_leaveNodes 15 = .ok (.aaload, 1) := by decide +kernel
theorem d_Mc_leaveNodes_16 : decode b_Mc_leaveNodes 16 = .ok (.dup, 1) := by decide +kernel
theorem d_Mc_leaveNodes_17 : decode b_Mc_leaveNodes 17 = .ok (.getfield 90, 3) := by decide +kernel
theorem d_Mc_leaveNodes_20 : decode b_Mc_leaveNodes 20 = .ok (.aload_n 1, 1) := by decide +kernel
theorem d_Mc_leaveNodes_21 : decode b_Mc_leaveNodes 21 = .ok (.getfield 113, 3) := by decide +kernel
theorem d_Mc_leaveNodes_24 : decode b_Mc_leaveNodes 24 = .ok (.iload_n 2, 1) := by decide +kernel
theorem d_Mc_leaveNodes_25 : decode b_Mc_leaveNodes 25 = .ok (.iaload, 1) := by decide +kernel
theorem d_Mc_leaveNodes_26 : decode b_Mc_leaveNodes 26 = .ok (.iadd, 1) := by decide +kernel
theorem d_Mc_leaveNodes_27 : decode b_Mc_leaveNodes 27 = .ok (.putfield 90, 3) := by decide +kernel
theorem d_Mc_leaveNodes_30 : decode b_Mc_leaveNodes 30 = .ok (.aload_n 1, 1) := by decide +kernel
theorem d_Mc_leaveNodes_31 : decode b_Mc_leaveNodes 31 = .ok (.getfield 113, 3) := by decide +kernel
theorem d_Mc_leaveNodes_34 : decode b_Mc_leaveNodes 34 = .ok (.iload_n 2, 1) := by decide +kernel
theorem d_Mc_leaveNodes_35 : decode b_Mc_leaveNodes 35 = .ok (.iconst 0, 1) := by decide +kernel
theorem d_Mc_leaveNodes_36 : decode b_Mc_leaveNodes 36 = .ok (.iastore, 1) := by decide +kernel
theorem d_Mc_leaveNodes_37 : decode b_Mc_leaveNodes 37 = .ok (.iinc 2 (1), 3) := by decide +kernel
theorem d_Mc_leaveNodes_40 : decode b_Mc_leaveNodes 40 = .ok (.goto (-38), 3) := by decide +kernel
theorem d_Mc_leaveNodes_43 : decode b_Mc_leaveNodes 43 = .ok (.aload_n 1, 1) := by decide +kernel
theorem d_Mc_leaveNodes_44 : decode b_Mc_leaveNodes 44 = .ok (.iconst 0, 1) := by decide +kernel
theorem d_Mc_leaveNodes_45 : decode b_Mc_leaveNodes 45 = .ok (.putfield 110, 3) := by decide +kernel
theorem d_Mc_leaveNodes_48 : decode b_Mc_leaveNodes 48 = .ok (.aload_n 1, 1) := by decide +kernel
theorem d_Mc_leaveNodes_49 : decode b_Mc_leaveNodes 49 = .ok (.iconst 0, 1) := by decide +kernel
theorem d_Mc_leaveNodes_50 : decode b_Mc_leaveNodes 50 = .ok (.putfield 123, 3) := by decide +kernel
theorem d_Mc_leaveNodes_53 : decode b_Mc_leaveNodes 53 = .ok (.return_, 1) := by decide +kernel
theorem d_Mc_nodesTaken_0 : decode b_Mc_nodesTaken 0 = .ok (.iconst 0, 1) := by decide +kernel
theorem d_Mc_nodesTaken_1 : decode b_Mc_nodesTaken 1 = .ok (.istore_n 2, 1) := by decide +kernel
theorem d_Mc_nodesTaken_2 : decode b_Mc_nodesTaken 2 = .ok (.iconst 0, 1) := by decide +kernel
theorem d_Mc_nodesTaken_3 : decode b_Mc_nodesTaken 3 = .ok (.istore_n 3, 1) := by decide +kernel
theorem d_Mc_nodesTaken_4 : decode b_Mc_nodesTaken 4 = .ok (.iload_n 3, 1) := by decide +kernel
theorem d_Mc_nodesTaken_5 : decode b_Mc_nodesTaken 5 = .ok (.aload_n 0, 1) := by decide +kernel
theorem d_Mc_nodesTaken_6 : decode b_Mc_nodesTaken 6 = .ok (.getfield 62, 3) := by decide +kernel
theorem d_Mc_nodesTaken_9 : decode b_Mc_nodesTaken 9 = .ok (.if_icmp .ge (34), 3) := by decide +kernel
theorem d_Mc_nodesTaken_12 : decode b_Mc_nodesTaken 12 = .ok (.iload_n 1, 1) := by decide +kernel
theorem d_Mc_nodesTaken_13 : decode b_Mc_nodesTaken 13 = .ok (.aload_n 0, 1) := by decide +kernel
theorem d_Mc_nodesTaken_14 : decode b_Mc_nodesTaken 14 = .ok (.getfield 25, 3) := by decide +kernel
theorem d_Mc_nodesTaken_17 : decode b_Mc_nodesTaken 17 = .ok (.iload_n 3, 1) := by decide +kernel
theorem d_Mc_nodesTaken_18 : decode b_Mc_nodesTaken 18 = .ok (.aaload, 1) := by decide +kernel
theorem d_Mc_nodesTaken_19 : decode b_Mc_nodesTaken 19 = .ok (.getfield 123, 3) := by decide +kernel
theorem d_Mc_nodesTaken_22 : decode b_Mc_nodesTaken 22 = .ok (.if_icmp .ge (15), 3) := by decide +kernel
theorem d_Mc_nodesTaken_25 : decode b_Mc_nodesTaken 25 = .ok (.iload_n 2, 1) := by decide +kernel
theorem d_Mc_nodesTaken_26 : decode b_Mc_nodesTaken 26 = .ok (.aload_n 0, 1) := by decide +kernel
theorem d_Mc_nodesTaken_27 : decode b_Mc_nodesTaken 27 = .ok (.getfield 25, 3) := by decide +kernel
theorem d_Mc_nodesTaken_30 : decode b_Mc_nodesTaken 30 = .ok (.iload_n 3, 1) := by decide +kernel
theorem d_Mc_nodesTaken_31 : decode b_Mc_nodesTaken 31 = .ok (.aaload, 1) := by decide +kernel
theorem d_Mc_nodesTaken_32 : decode b_Mc_nodesTaken 32 = .ok (.getfield 110, 3) := by decide +kernel
theorem d_Mc_nodesTaken_35 : decode b_Mc_nodesTaken 35 = .ok (.iadd, 1) := by decide +kernel
theorem d_Mc_nodesTaken_36 : decode b_Mc_nodesTaken 36 = .ok (.istore_n 2, 1) := by decide +kernel
theorem d_Mc_nodesTaken_37 : decode b_Mc_nodesTaken 37 = .ok (.iinc 3 (1), 3) := by decide +kernel
theorem d_Mc_nodesTaken_40 : decode b_Mc_nodesTaken 40 = .ok (.goto (-36), 3) := by decide +kernel
theorem d_Mc_nodesTaken_43 : decode b_Mc_nodesTaken 43 = .ok (.iconst 0, 1) := by decide +kernel
theorem d_Mc_nodesTaken_44 : decode b_Mc_nodesTaken 44 = .ok (.istore_n 3, 1) := by decide +kernel
theorem d_Mc_nodesTaken_45 : decode b_Mc_nodesTaken 45 = .ok (.iload_n 3, 1) := by decide +kernel
theorem d_Mc_nodesTaken_46 : decode b_Mc_nodesTaken 46 = .ok (.aload_n 0, 1) := by decide +kernel
theorem d_Mc_nodesTaken_47 : decode b_Mc_nodesTaken 47 = .ok (.getfield 65, 3) := by decide +kernel
theorem d_Mc_nodesTaken_50 : decode b_Mc_nodesTaken 50 = .ok (.if_icmp .ge (47), 3) := by decide +kernel
theorem d_Mc_nodesTaken_53 : decode b_Mc_nodesTaken 53 = .ok (.iload_n 1, 1) := by decide +kernel
theorem d_Mc_nodesTaken_54 : decode b_Mc_nodesTaken 54 = .ok (.aload_n 0, 1) := by decide +kernel
theorem d_Mc_nodesTaken_55 : decode b_Mc_nodesTaken 55 = .ok (.getfield 31, 3) := by decide +kernel
theorem d_Mc_nodesTaken_58 : decode b_Mc_nodesTaken 58 = .ok (.iload_n 3, 1) := by decide +kernel
theorem d_Mc_nodesTaken_59 : decode b_Mc_nodesTaken 59 = .ok (.aaload, 1) := by decide +kernel
theorem d_Mc_nodesTaken_60 : decode b_Mc_nodesTaken 60 = .ok (.getfield 126, 3) := by decide +kernel
theorem d_Mc_nodesTaken_63 : decode b_Mc_nodesTaken 63 = .ok (.if_icmp .lt (28), 3) := by decide +kernel
theorem d_Mc_nodesTaken_66 : decode b_Mc_nodesTaken 66 = .ok (.iload_n 1, 1) := by decide +kernel
theorem d_Mc_nodesTaken_67 : decode b_Mc_nodesTaken 67 = .ok (.aload_n 0, 1) := by decide +kernel
theorem d_Mc_nodesTaken_68 : decode b_Mc_nodesTaken 68 = .ok (.getfield 31, 3) := by decide +kernel
theorem d_Mc_nodesTaken_71 : decode b_Mc_nodesTaken 71 = .ok (.iload_n 3, 1) := by decide +kernel
theorem d_Mc_nodesTaken_72 : decode b_Mc_nodesTaken 72 = .ok (.aaload, 1) := by decide +kernel
theorem d_Mc_nodesTaken_73 : decode b_Mc_nodesTaken 73 = .ok (.getfield 129, 3) := by decide +kernel
theorem d_Mc_nodesTaken_76 : decode b_Mc_nodesTaken 76 = .ok (.if_icmp .ge (15), 3) := by decide +kernel
theorem d_Mc_nodesTaken_79 : decode b_Mc_nodesTaken 79 = .ok (.iload_n 2, 1) := by decide +kernel
theorem d_Mc_nodesTaken_80 : decode b_Mc_nodesTaken 80 = .ok (.aload_n 0, 1) := by decide +kernel
theorem d_Mc_nodesTaken_81 : decode b_Mc_nodesTaken 81 = .ok (.getfield 31, 3) := by decide +kernel
theorem d_Mc_nodesTaken_84 : decode b_Mc_nodesTaken 84 = .ok (.iload_n 3, 1) := by decide +kernel
theorem d_Mc_nodesTaken_85 : decode b_Mc_nodesTaken 85 = .ok (.aaload, 1) := by decide +kernel
theorem d_Mc_nodesTaken_86 : decode b_Mc_nodesTaken 86 = .ok (.getfield 132, 3) := by decide +kernel
theorem d_Mc_nodesTaken_89 : decode b_Mc_nodesTaken 89 = .ok (.iadd, 1) := by decide +kernel
theorem d_Mc_nodesTaken_90 : decode b_Mc_nodesTaken 90 = .ok (.istore_n 2, 1) := by decide +kernel
theorem d_Mc_nodesTaken_91 : decode b_Mc_nodesTaken 91 = .ok (.iinc 3 (1), 3) := by decide +kernel
theorem d_Mc_nodesTaken_94 : decode b_Mc_nodesTaken 94 = .ok (.goto (-49), 3) := by decide +kernel
theorem d_Mc_nodesTaken_97 : decode b_Mc_nodesTaken 97 = .ok (.iload_n 2, 1) := by decide +kernel
theorem d_Mc_nodesTaken_98 : decode b_Mc_nodesTaken 98 = .ok (.ireturn, 1) := by decide +kernel
theorem d_Mc_licencesTaken_0 : decode b_Mc_licencesTaken 0 = .ok (.iconst 0, 1) := by decide +kernel
theorem d_Mc_licencesTaken_1 : decode b_Mc_licencesTaken 1 = .ok (.istore_n 2, 1) := by decide +kernel
theorem d_Mc_licencesTaken_2 : decode b_Mc_licencesTaken 2 = .ok (.iconst 0, 1) := by decide +kernel
theorem d_Mc_licencesTaken_3 : decode b_Mc_licencesTaken 3 = .ok (.istore_n 3, 1) := by decide +kernel
theorem d_Mc_licencesTaken_4 : decode b_Mc_licencesTaken 4 = .ok (.iload_n 3, 1) := by decide +kernel
theorem d_Mc_licencesTaken_5 : decode b_Mc_licencesTaken 5 = .ok (.aload_n 0, 1) := by decide +kernel
theorem d_Mc_licencesTaken_6 : decode b_Mc_licencesTaken 6 = .ok (.getfield 62, 3) := by decide +kernel
theorem d_Mc_licencesTaken_9 : decode b_Mc_licencesTaken 9 = .ok (.if_icmp .ge (34), 3) := by decide +kernel
theorem d_Mc_licencesTaken_12 : decode b_Mc_licencesTaken 12 = .ok (.iload_n 1, 1) := by decide +kernel
theorem d_Mc_licencesTaken_13 : decode b_Mc_licencesTaken 13 = .ok (.aload_n 0, 1) := by decide +kernel
theorem d_Mc_licencesTaken_14 : decode b_Mc_licencesTaken 14 = .ok (.getfield 25, 3) := by decide +kernel
theorem d_Mc_licencesTaken_17 : decode b_Mc_licencesTaken 17 = .ok (.iload_n 3, 1) := by decide +kernel
theorem d_Mc_licencesTaken_18 : decode b_Mc_licencesTaken 18 = .ok (.aaload, 1) := by decide +kernel
theorem d_Mc_licencesTaken_19 : decode b_Mc_licencesTaken 19 = .ok (.getfield 123, 3) := by decide +kernel
theorem d_Mc_licencesTaken_22 : decode b_Mc_licencesTaken 22 = .ok (.if_icmp .ge (15), 3) := by decide +kernel
theorem d_Mc_licencesTaken_25 : decode b_Mc_licencesTaken 25 = .ok (.iload_n 2, 1) := by decide +kernel
theorem d_Mc_licencesTaken_26 : decode b_Mc_licencesTaken 26 = .ok (.aload_n 0, 1) := by decide +kernel
theorem d_Mc_licencesTaken_27 : decode b_Mc_licencesTaken 27 = .ok (.getfield 25, 3) := by decide +kernel
theorem d_Mc_licencesTaken_30 : decode b_Mc_licencesTaken 30 = .ok (.iload_n 3, 1) := by decide +kernel
theorem d_Mc_licencesTaken_31 : decode b_Mc_licencesTaken 31 = .ok (.aaload, 1) := by decide +kernel
theorem d_Mc_licencesTaken_32 : decode b_Mc_licencesTaken 32 = .ok (.getfield 133, 3) := by decide +kernel
theorem d_Mc_licencesTaken_35 : decode b_Mc_licencesTaken 35 = .ok (.iadd, 1) := by decide +kernel
theorem d_Mc_licencesTaken_36 : decode b_Mc_licencesTaken 36 = .ok (.istore_n 2, 1) := by decide +kernel
theorem d_Mc_licencesTaken_37 : decode b_Mc_licencesTaken 37 = .ok (.iinc 3 (1), 3) := by decide +kernel
theorem d_Mc_licencesTaken_40 : decode b_Mc_licencesTaken 40 = .ok (.goto (-36), 3) := by decide +kernel
theorem d_Mc_licencesTaken_43 : decode b_Mc_licencesTaken 43 = .ok (.iconst 0, 1) := by decide +kernel
theorem d_Mc_licencesTaken_44 : decode b_Mc_licencesTaken 44 = .ok (.istore_n 3, 1) := by decide +kernel
theorem d_Mc_licencesTaken_45 : decode b_Mc_licencesTaken 45 = .ok (.iload_n 3, 1) := by decide +kernel
theorem d_Mc_licencesTaken_46 : decode b_Mc_licencesTaken 46 = .ok (.aload_n 0, 1) := by decide +kernel
theorem d_Mc_licencesTaken_47 : decode b_Mc_licencesTaken 47 = .ok (.getfield 65, 3) := by decide +kernel
theorem d_Mc_licencesTaken_50 : decode b_Mc_licencesTaken 50 = .ok (.if_icmp .ge (47), 3) := by decide +kernel
theorem d_Mc_licencesTaken_53 : decode b_Mc_licencesTaken 53 = .ok (.iload_n 1, 1) := by decide +kernel
theorem d_Mc_licencesTaken_54 : decode b_Mc_licencesTaken 54 = .ok (.aload_n 0, 1) := by decide +kernel
theorem d_Mc_licencesTaken_55 : decode b_Mc_licencesTaken 55 = .ok (.getfield 31, 3) := by decide +kernel
theorem d_Mc_licencesTaken_58 : decode b_Mc_licencesTaken 58 = .ok (.iload_n 3, 1) := by decide +kernel
theorem d_Mc_licencesTaken_59 : decode b_Mc_licencesTaken 59 = .ok (.aaload, 1) := by decide +kernel
theorem d_Mc_licencesTaken_60 : decode b_Mc_licencesTaken 60 = .ok (.getfield 126, 3) := by decide +kernel
theorem d_Mc_licencesTaken_63 : decode b_Mc_licencesTaken 63 = .ok (.if_icmp .lt (28), 3) := by decide +kernel
theorem d_Mc_licencesTaken_66 : decode b_Mc_licencesTaken 66 = .ok (.iload_n 1, 1) := by decide +kernel
theorem d_Mc_licencesTaken_67 : decode b_Mc_licencesTaken 67 = .ok (.aload_n 0, 1) := by decide +kernel
theorem d_Mc_licencesTaken_68 : decode b_Mc_licencesTaken 68 = .ok (.getfield 31, 3) := by decide +kernel
theorem d_Mc_licencesTaken_71 : decode b_Mc_licencesTaken 71 = .ok (.iload_n 3, 1) := by decide +kernel
theorem d_Mc_licencesTaken_72 : decode b_Mc_licencesTaken 72 = .ok (.aaload, 1) := by decide +kernel
theorem d_Mc_licencesTaken_73 : decode b_Mc_licencesTaken 73 = .ok (.getfield 129, 3) := by decide +kernel
theorem d_Mc_licencesTaken_76 : decode b_Mc_licencesTaken 76 = .ok (.if_icmp .ge (15), 3) := by decide +kernel
theorem d_Mc_licencesTaken_79 : decode b_Mc_licencesTaken 79 = .ok (.iload_n 2, 1) := by decide +kernel
theorem d_Mc_licencesTaken_80 : decode b_Mc_licencesTaken 80 = .ok (.aload_n 0, 1) := by decide +kernel
theorem d_Mc_licencesTaken_81 : decode b_Mc_licencesTaken 81 = .ok (.getfield 31, 3) := by decide +kernel
theorem d_Mc_licencesTaken_84 : decode b_Mc_licencesTaken 84 = .ok (.iload_n 3, 1) := by decide +kernel
theorem d_Mc_licencesTaken_85 : decode b_Mc_licencesTaken 85 = .ok (.aaload, 1) := by decide +kernel
theorem d_Mc_licencesTaken_86 : decode b_Mc_licencesTaken 86 = .ok (.getfield 136, 3) := by decide +kernel
theorem d_Mc_licencesTaken_89 : decode b_Mc_licencesTaken 89 = .ok (.iadd, 1) := by decide +kernel
theorem d_Mc_licencesTaken_90 : decode b_Mc_licencesTaken 90 = .ok (.istore_n 2, 1) := by decide +kernel
theorem d_Mc_licencesTaken_91 : decode b_Mc_licencesTaken 91 = .ok (.iinc 3 (1), 3) := by decide +kernel
theorem d_Mc_licencesTaken_94 : decode b_Mc_licencesTaken 94 = .ok (.goto (-49), 3) := by decide +kernel
theorem d_Mc_licencesTaken_97 : decode b_Mc_licencesTaken 97 = .ok (.iload_n 2, 1) := by decide +kernel
theorem d_Mc_licencesTaken_98 : decode b_Mc_licencesTaken 98 = .ok (.ireturn, 1) := by decide +kernel
theorem d_Mc_nodesFit_0 : decode b_Mc_nodesFit 0 = .ok (.iload_n 1, 1) := by decide +kernel
theorem d_Mc_nodesFit_1 : decode b_Mc_nodesFit 1 = .ok (.aload_n 0, 1) := by decide +kernel
theorem d_Mc_nodesFit_2 : decode b_Mc_nodesFit 2 = .ok (.iload_n 2, 1) := by decide +kernel
theorem d_Mc_nodesFit_3 : decode b_Mc_nodesFit 3 = .ok (.invokevirtual 137, 3) := by decide +kernel
theorem d_Mc_nodesFit_6 : decode b_Mc_nodesFit 6 = .ok (.iadd, 1) := by decide +kernel
theorem d_Mc_nodesFit_7 : decode b_Mc_nodesFit 7 = .ok (.aload_n 0, 1) := by decide +kernel
theorem d_Mc_nodesFit_8 : decode b_Mc_nodesFit 8 = .ok (.getfield 71, 3) := by decide +kernel
theorem d_Mc_nodesFit_11 : decode b_Mc_nodesFit 11 = .ok (.if_icmp .gt (7), 3) := by decide +kernel
theorem d_Mc_nodesFit_14 : decode b_Mc_nodesFit 14 = .ok (.iconst 1, 1) := by decide +kernel
theorem d_Mc_nodesFit_15 : decode b_Mc_nodesFit 15 = .ok (.goto (4), 3) := by decide +kernel
theorem d_Mc_nodesFit_18 : decode b_Mc_nodesFit 18 = .ok (.iconst 0, 1) := by decide +kernel
theorem d_Mc_nodesFit_19 : decode b_Mc_nodesFit 19 = .ok (.istore 4, 2) := by decide +kernel
theorem d_Mc_nodesFit_21 : decode b_Mc_nodesFit 21 = .ok (.iconst 0, 1) := by decide +kernel
theorem d_Mc_nodesFit_22 : decode b_Mc_nodesFit 22 = .ok (.istore 5, 2) := by decide +kernel
theorem d_Mc_nodesFit_24 : decode b_Mc_nodesFit 24 = .ok (.iload 5, 2) := by decide +kernel
theorem d_Mc_nodesFit_26 : decode b_Mc_nodesFit 26 = .ok (.aload_n 0, 1) := by decide +kernel
theorem d_Mc_nodesFit_27 : decode b_Mc_nodesFit 27 = .ok (.getfield 65, 3) := by decide +kernel
theorem d_Mc_nodesFit_30 : decode b_Mc_nodesFit 30 = .ok (.if_icmp .ge (59), 3) := by decide +kernel
theorem d_Mc_nodesFit_33 : decode b_Mc_nodesFit 33 = .ok (.iload 4, 2) := by decide +kernel
theorem d_Mc_nodesFit_35 : decode b_Mc_nodesFit 35 = .ok (.ifCond .eq (54), 3) := by decide +kernel
theorem d_Mc_nodesFit_38 : decode b_Mc_nodesFit 38 = .ok (.aload_n 0, 1) := by decide +kernel
theorem d_Mc_nodesFit_39 : decode b_Mc_nodesFit 39 = .ok (.getfield 31, 3) := by decide +kernel
theorem d_Mc_nodesFit_42 : decode b_Mc_nodesFit 42 = .ok (.iload 5, 2) := by decide +kernel
theorem d_Mc_nodesFit_44 : decode b_Mc_nodesFit 44 = .ok (.aaload, 1) := by decide +kernel
theorem d_Mc_nodesFit_45 : decode b_Mc_nodesFit 45 = .ok (.iload_n 2, 1) := by decide +kernel
theorem d_Mc_nodesFit_46 : decode b_Mc_nodesFit 46 = .ok (.iload_n 3, 1) := by decide +kernel
theorem d_Mc_nodesFit_47 : decode b_Mc_nodesFit 47 = .ok (.invokevirtual 141, 3) := by decide +kernel
theorem d_Mc_nodesFit_50 : decode b_Mc_nodesFit 50 = .ok (.ifCond .eq (33), 3) := by decide +kernel
theorem d_Mc_nodesFit_53 : decode b_Mc_nodesFit 53 = .ok (.iload_n 1, 1) := by decide +kernel
theorem d_Mc_nodesFit_54 : decode b_Mc_nodesFit 54 = .ok (.aload_n 0, 1) := by decide +kernel
theorem d_Mc_nodesFit_55 : decode b_Mc_nodesFit 55 = .ok (.aload_n 0, 1) := by decide +kernel
theorem d_Mc_nodesFit_56 : decode b_Mc_nodesFit 56 = .ok (.getfield 31, 3) := by decide +kernel
theorem d_Mc_nodesFit_59 : decode b_Mc_nodesFit 59 = .ok (.iload 5, 2) := by decide +kernel
theorem d_Mc_nodesFit_61 : decode b_Mc_nodesFit 61 = .ok (.aaload, 1) := by decide +kernel
theorem d_Mc_nodesFit_62 : decode b_Mc_nodesFit 62 = .ok (.getfield 126, 3) := by decide +kernel
theorem d_Mc_nodesFit_65 : decode b_Mc_nodesFit 65 = .ok (.invokevirtual 137, 3) := by decide +kernel
theorem d_Mc_nodesFit_68 : decode b_Mc_nodesFit 68 = .ok (.iadd, 1) := by decide +kernel
theorem d_Mc_nodesFit_69 : decode b_Mc_nodesFit 69 = .ok (.aload_n 0, 1) := by decide +kernel
theorem d_Mc_nodesFit_70 : decode b_Mc_nodesFit 70 = .ok (.getfield 71, 3) := by decide +kernel
theorem d_Mc_nodesFit_73 : decode b_Mc_nodesFit 73 = .ok (.if_icmp .gt (7), 3) := by decide +kernel
theorem d_Mc_nodesFit_76 : decode b_Mc_nodesFit 76 = .ok (.iconst 1, 1) := by decide +kernel
theorem d_Mc_nodesFit_77 : decode b_Mc_nodesFit 77 = .ok (.goto (4), 3) := by decide +kernel
theorem d_Mc_nodesFit_80 : decode b_Mc_nodesFit 80 = .ok (.iconst 0, 1) := by decide +kernel
theorem d_Mc_nodesFit_81 : decode b_Mc_nodesFit 81 = .ok (.istore 4, 2) := by decide +kernel
theorem d_Mc_nodesFit_83 : decode b_Mc_nodesFit 83 = .ok (.iinc 5 (1), 3) := by decide +kernel
theorem d_Mc_nodesFit_86 : decode b_Mc_nodesFit 86 = .ok (.goto (-62), 3) := by decide +kernel
theorem d_Mc_nodesFit_89 : decode b_Mc_nodesFit 89 = .ok (.iload 4, 2) := by decide +kernel
theorem d_Mc_nodesFit_91 : decode b_Mc_nodesFit 91 = .ok (.ireturn, 1) := by decide +kernel
theorem d_Mc_licencesFit_0 : decode b_Mc_licencesFit 0 = .ok (.iload_n 1, 1) := by decide +kernel
theorem d_Mc_licencesFit_1 : decode b_Mc_licencesFit 1 = .ok (.aload_n 0, 1) := by decide +kernel
theorem d_Mc_licencesFit_2 : decode b_Mc_licencesFit 2 = .ok (.iload_n 2, 1) := by decide +kernel
theorem d_Mc_licencesFit_3 : decode b_Mc_licencesFit 3 = .ok (.invokevirtual 145, 3) := by decide +kernel
theorem d_Mc_licencesFit_6 : decode b_Mc_licencesFit 6 = .ok (.iadd, 1) := by decide +kernel
theorem d_Mc_licencesFit_7 : decode b_Mc_licencesFit 7 = .ok (.aload_n 0, 1) := by decide +kernel
theorem d_Mc_licencesFit_8 : decode b_Mc_licencesFit 8 = .ok (.getfield 39, 3) := by decide +kernel
theorem d_Mc_licencesFit_11 : decode b_Mc_licencesFit 11 = .ok (.if_icmp .gt (7), 3) := by decide +kernel
theorem d_Mc_licencesFit_14 : decode b_Mc_licencesFit 14 = .ok (.iconst 1, 1) := by decide +kernel
theorem d_Mc_licencesFit_15 : decode b_Mc_licencesFit 15 = .ok (.goto (4), 3) := by decide +kernel
theorem d_Mc_licencesFit_18 : decode b_Mc_licencesFit 18 = .ok (.iconst 0, 1) := by decide +kernel
theorem d_Mc_licencesFit_19 : decode b_Mc_licencesFit 19 = .ok (.istore 4, 2) := by decide +kernel
theorem d_Mc_licencesFit_21 : decode b_Mc_licencesFit 21 = .ok (.iconst 0, 1) := by decide +kernel
theorem d_Mc_licencesFit_22 : decode b_Mc_licencesFit 22 = .ok (.istore 5, 2) := by decide +kernel
theorem d_Mc_licencesFit_24 : decode b_Mc_licencesFit 24 = .ok (.iload 5, 2) := by decide +kernel
theorem d_Mc_licencesFit_26 : decode b_Mc_licencesFit 26 = .ok (.aload_n 0, 1) := by decide +kernel
theorem d_Mc_licencesFit_27 : decode b_Mc_licencesFit 27 = .ok (.getfield 65, 3) := by decide +kernel
theorem d_Mc_licencesFit_30 : decode b_Mc_licencesFit 30 = .ok (.if_icmp .ge (59), 3) := by decide +kernel
theorem d_Mc_licencesFit_33 : decode b_Mc_licencesFit 33 = .ok (.iload 4, 2) := by decide +kernel
theorem d_Mc_licencesFit_35 : decode b_Mc_licencesFit 35 = .ok (.ifCond .eq (54), 3) := by decide +kernel
theorem d_Mc_licencesFit_38 : decode b_Mc_licencesFit 38 = .ok (.aload_n 0, 1) := by decide +kernel
theorem d_Mc_licencesFit_39 : decode b_Mc_licencesFit 39 = .ok (.getfield 31, 3) := by decide +kernel
theorem d_Mc_licencesFit_42 : decode b_Mc_licencesFit 42 = .ok (.iload 5, 2) := by decide +kernel
theorem d_Mc_licencesFit_44 : decode b_Mc_licencesFit 44 = .ok (.aaload, 1) := by decide +kernel
theorem d_Mc_licencesFit_45 : decode b_Mc_licencesFit 45 = .ok (.iload_n 2, 1) := by decide +kernel
theorem d_Mc_licencesFit_46 : decode b_Mc_licencesFit 46 = .ok (.iload_n 3, 1) := by decide +kernel
theorem d_Mc_licencesFit_47 : decode b_Mc_licencesFit 47 = .ok (.invokevirtual 141, 3) := by decide +kernel
theorem d_Mc_licencesFit_50 : decode b_Mc_licencesFit 50 = .ok (.ifCond .eq (33), 3) := by decide +kernel
theorem d_Mc_licencesFit_53 : decode b_Mc_licencesFit 53 = .ok (.iload_n 1, 1) := by decide +kernel
theorem d_Mc_licencesFit_54 : decode b_Mc_licencesFit 54 = .ok (.aload_n 0, 1) := by decide +kernel
theorem d_Mc_licencesFit_55 : decode b_Mc_licencesFit 55 = .ok (.aload_n 0, 1) := by decide +kernel
theorem d_Mc_licencesFit_56 : decode b_Mc_licencesFit 56 = .ok (.getfield 31, 3) := by decide +kernel
theorem d_Mc_licencesFit_59 : decode b_Mc_licencesFit 59 = .ok (.iload 5, 2) := by decide +kernel
theorem d_Mc_licencesFit_61 : decode b_Mc_licencesFit 61 = .ok (.aaload, 1) := by decide +kernel
theorem d_Mc_licencesFit_62 : decode b_Mc_licencesFit 62 = .ok (.getfield 126, 3) := by decide +kernel
theorem d_Mc_licencesFit_65 : decode b_Mc_licencesFit 65 = .ok (.invokevirtual 145, 3) := by decide +kernel
theorem d_Mc_licencesFit_68 : decode b_Mc_licencesFit 68 = .ok (.iadd, 1) := by decide +kernel
theorem d_Mc_licencesFit_69 : decode b_Mc_licencesFit 69 = .ok (.aload_n 0, 1) := by decide +kernel
theorem d_Mc_licencesFit_70 : decode b_Mc_licencesFit 70 = .ok (.getfield 39, 3) := by decide +kernel
theorem d_Mc_licencesFit_73 : decode b_Mc_licencesFit 73 = .ok (.if_icmp .gt (7), 3) := by decide +kernel
theorem d_Mc_licencesFit_76 : decode b_Mc_licencesFit 76 = .ok (.iconst 1, 1) := by decide +kernel
theorem d_Mc_licencesFit_77 : decode b_Mc_licencesFit 77 = .ok (.goto (4), 3) := by decide +kernel
theorem d_Mc_licencesFit_80 : decode b_Mc_licencesFit 80 = .ok (.iconst 0, 1) := by decide +kernel
theorem d_Mc_licencesFit_81 : decode b_Mc_licencesFit 81 = .ok (.istore 4, 2) := by decide +kernel
theorem d_Mc_licencesFit_83 : decode b_Mc_licencesFit 83 = .ok (.iinc 5 (1), 3) := by decide +kernel
theorem d_Mc_licencesFit_86 : decode b_Mc_licencesFit 86 = .ok (.goto (-62), 3) := by decide +kernel
theorem d_Mc_licencesFit_89 : decode b_Mc_licencesFit 89 = .ok (.iload 4, 2) := by decide +kernel
theorem d_Mc_licencesFit_91 : decode b_Mc_licencesFit 91 = .ok (.ireturn, 1) := by decide +kernel
theorem d_Mc_fits_0 : decode b_Mc_fits 0 = .ok (.iload_n 2, 1) := by decide +kernel
theorem d_Mc_fits_1 : decode b_Mc_fits 1 = .ok (.aload_n 1, 1) := by decide +kernel
theorem d_Mc_fits_2 : decode b_Mc_fits 2 = .ok (.invokevirtual 148, 3) := by decide +kernel
theorem d_Mc_fits_5 : decode b_Mc_fits 5 = .ok (.iadd, 1) := by decide +kernel
theorem d_Mc_fits_6 : decode b_Mc_fits 6 = .ok (.istore_n 3, 1) := by decide +kernel
theorem d_Mc_fits_7 : decode b_Mc_fits 7 = .ok (.aload_n 0, 1) := by decide +kernel
theorem d_Mc_fits_8 : decode b_Mc_fits 8 = .ok (.aload_n 1, 1) := by decide +kernel
theorem d_Mc_fits_9 : decode b_Mc_fits 9 = .ok (.getfield 152, 3) := by decide +kernel
theorem d_Mc_fits_12 : decode b_Mc_fits 12 = .ok (.iload_n 2, 1) := by decide +kernel
theorem d_Mc_fits_13 : decode b_Mc_fits 13 = .ok (.iload_n 3, 1) := by decide +kernel
theorem d_Mc_fits_14 : decode b_Mc_fits 14 = .ok (.invokevirtual 153, 3) := by decide +kernel
theorem d_Mc_fits_17 : decode b_Mc_fits 17 = .ok (.ifCond .eq (20), 3) := by decide +kernel
theorem d_Mc_fits_20 : decode b_Mc_fits 20 = .ok (.aload_n 0, 1) := by decide +kernel
theorem d_Mc_fits_21 : decode b_Mc_fits 21 = .ok (.aload_n 1, 1) := by decide +kernel
theorem d_Mc_fits_22 : decode b_Mc_fits 22 = .ok (.getfield 133, 3) := by decide +kernel
theorem d_Mc_fits_25 : decode b_Mc_fits 25 = .ok (.iload_n 2, 1) := by decide +kernel
theorem d_Mc_fits_26 : decode b_Mc_fits 26 = .ok (.iload_n 3, 1) := by decide +kernel
theorem d_Mc_fits_27 : decode b_Mc_fits 27 = .ok (.invokevirtual 157, 3) := by decide +kernel
theorem d_Mc_fits_30 : decode b_Mc_fits 30 = .ok (.ifCond .eq (7), 3) := by decide +kernel
theorem d_Mc_fits_33 : decode b_Mc_fits 33 = .ok (.iconst 1, 1) := by decide +kernel
theorem d_Mc_fits_34 : decode b_Mc_fits 34 = .ok (.goto (4), 3) := by decide +kernel
theorem d_Mc_fits_37 : decode b_Mc_fits 37 = .ok (.iconst 0, 1) := by decide +kernel
theorem d_Mc_fits_38 : decode b_Mc_fits 38 = .ok (.ireturn, 1) := by decide +kernel
theorem d_Mc_passTick_0 : decode b_Mc_passTick 0 = .ok (.aload_n 0, 1) := by decide +kernel
theorem d_Mc_passTick_1 : decode b_Mc_passTick 1 = .ok (.invokevirtual 160, 3) := by decide +kernel
theorem d_Mc_passTick_4 : decode b_Mc_passTick 4 = .ok (.aload_n 0, 1) := by decide +kernel
theorem d_Mc_passTick_5 : decode b_Mc_passTick 5 = .ok (.invokevirtual 163, 3) := by decide +kernel
theorem d_Mc_passTick_8 : decode b_Mc_passTick 8 = .ok (.aload_n 0, 1) := by decide +kernel
theorem d_Mc_passTick_9 : decode b_Mc_passTick 9 = .ok (.iload_n 1, 1) := by decide +kernel
theorem d_Mc_passTick_10 : decode b_Mc_passTick 10 = .ok (.invokevirtual 166, 3) := by decide +kernel
theorem d_Mc_passTick_13 : decode b_Mc_passTick 13 = .ok (.aload_n 0, 1) := by decide +kernel
theorem d_Mc_passTick_14 : decode b_Mc_passTick 14 = .ok (.dup, 1) := by decide +kernel
theorem d_Mc_passTick_15 : decode b_Mc_passTick 15 = .ok (.getfield 68, 3) := by decide +kernel
theorem d_Mc_passTick_18 : decode b_Mc_passTick 18 = .ok (.iconst 1, 1) := by decide +kernel
theorem d_Mc_passTick_19 : decode b_Mc_passTick 19 = .ok (.iadd, 1) := by decide +kernel
theorem d_Mc_passTick_20 : decode b_Mc_passTick 20 = .ok (.putfield 68, 3) := by decide +kernel
theorem d_Mc_passTick_23 : decode b_Mc_passTick 23 = .ok (.aload_n 0, 1) := by decide +kernel
theorem d_Mc_passTick_24 : decode b_Mc_passTick 24 = .ok (.getfield 35, 3) := by decide +kernel
theorem d_Mc_passTick_27 : decode b_Mc_passTick 27 = .ok (.ifCond .le (19), 3) := by decide +kernel
theorem d_Mc_passTick_30 : decode b_Mc_passTick 30 = .ok (.aload_n 0, 1) := by decide +kernel
theorem d_Mc_passTick_31 : decode b_Mc_passTick 31 = .ok (.getfield 68, 3) := by decide +kernel
theorem d_Mc_passTick_34 : decode b_Mc_passTick 34 = .ok (.aload_n 0, 1) := by decide +kernel
theorem d_Mc_passTick_35 : decode b_Mc_passTick 35 = .ok (.getfield 35, 3) := by decide +kernel
theorem d_Mc_passTick_38 : decode b_Mc_passTick 38 = .ok (.irem, 1) := by decide +kernel
theorem d_Mc_passTick_39 : decode b_Mc_passTick 39 = .ok (.ifCond .ne (7), 3) := by decide +kernel
theorem d_Mc_passTick_42 : decode b_Mc_passTick 42 = .ok (.aload_n 0, 1) := by decide +kernel
theorem d_Mc_passTick_43 : decode b_Mc_passTick 43 = .ok (.invokevirtual 170, 3) := by decide +kernel
theorem d_Mc_passTick_46 : decode b_Mc_passTick 46 = .ok (.return_, 1) := by decide +kernel
theorem d_Mc_lineUp_0 : decode b_Mc_lineUp 0 = .ok (.aload_n 0, 1) := by decide +kernel
theorem d_Mc_lineUp_1 : decode b_Mc_lineUp 1 = .ok (.iconst 0, 1) := by decide +kernel
theorem d_Mc_lineUp_2 : decode b_Mc_lineUp 2 = .ok (.putfield 173, 3) := by decide +kernel
theorem d_Mc_lineUp_5 : decode b_Mc_lineUp 5 = .ok (.iconst 0, 1) := by decide +kernel
theorem d_Mc_lineUp_6 : decode b_Mc_lineUp 6 = .ok (.istore_n 1, 1) := by decide +kernel
theorem d_Mc_lineUp_7 : decode b_Mc_lineUp 7 = .ok (.iload_n 1, 1) := by decide +kernel
theorem d_Mc_lineUp_8 : decode b_Mc_lineUp 8 = .ok (.aload_n 0, 1) := by decide +kernel
theorem d_Mc_lineUp_9 : decode b_Mc_lineUp 9 = .ok (.getfield 62, 3) := by decide +kernel
theorem d_Mc_lineUp_12 : decode b_Mc_lineUp 12 = .ok (.if_icmp .ge (27), 3) := by decide +kernel
theorem d_Mc_lineUp_15 : decode b_Mc_lineUp 15 = .ok (.aload_n 0, 1) := by decide +kernel
theorem d_Mc_lineUp_16 : decode b_Mc_lineUp 16 = .ok (.aload_n 0, 1) := by decide +kernel
theorem d_Mc_lineUp_17 : decode b_Mc_lineUp 17 = .ok (.getfield 25, 3) := by decide +kernel
theorem d_Mc_lineUp_20 : decode b_Mc_lineUp 20 = .ok (.iload_n 1, 1) := by decide +kernel
theorem d_Mc_lineUp_21 : decode b_Mc_lineUp 21 = .ok (.aaload, 1) := by decide +kernel
theorem d_Mc_lineUp_22 : decode b_Mc_lineUp 22 = .ok (.invokevirtual 176, 3) := by decide +kernel
theorem d_Mc_lineUp_25 : decode b_Mc_lineUp 25 = .ok (.ifCond .eq (8), 3) := by decide +kernel
theorem d_Mc_lineUp_28 : decode b_Mc_lineUp 28 = .ok (.aload_n 0, 1) := by decide +kernel
theorem d_Mc_lineUp_29 : decode b_Mc_lineUp 29 = .ok (.iload_n 1, 1) := by decide +kernel
theorem d_Mc_lineUp_30 : decode b_Mc_lineUp 30 = .ok (.invokevirtual 180, 3) := by decide +kernel
theorem d_Mc_lineUp_33 : decode b_Mc_lineUp 33 = .ok (.iinc 1 (1), 3) := by decide +kernel
theorem d_Mc_lineUp_36 : decode b_Mc_lineUp 36 = .ok (.goto (-29), 3) := by decide +kernel
theorem d_Mc_lineUp_39 : decode b_Mc_lineUp 39 = .ok (.return_, 1) := by decide +kernel
theorem d_Mc_mayBegin_0 : decode b_Mc_mayBegin 0 = .ok (.aload_n 1, 1) := by decide +kernel
theorem d_Mc_mayBegin_1 : decode b_Mc_mayBegin 1 = .ok (.getfield 99, 3) := by decide +kernel
theorem d_Mc_mayBegin_4 : decode b_Mc_mayBegin 4 = .ok (.ifCond .eq (5), 3) := by decide +kernel
theorem d_Mc_mayBegin_7 : decode b_Mc_mayBegin 7 = .ok (.iconst 0, 1) := by decide +kernel
theorem d_Mc_mayBegin_8 : decode b_Mc_mayBegin 8 = .ok (.ireturn, 1) := by decide +kernel
theorem d_Mc_mayBegin_9 : decode b_Mc_mayBegin 9 = .ok (.aload_n 0, 1) := by decide +kernel
theorem d_Mc_mayBegin_10 : decode b_Mc_mayBegin 10 = .ok (.aload_n 1, 1) := by decide +kernel
theorem d_Mc_mayBegin_11 : decode b_Mc_mayBegin 11 = .ok (.getfield 183, 3) := by decide +kernel
theorem d_Mc_mayBegin_14 : decode b_Mc_mayBegin 14 = .ok (.invokevirtual 186, 3) := by decide +kernel
theorem d_Mc_mayBegin_17 : decode b_Mc_mayBegin 17 = .ok (.ifCond .eq (19), 3) := by decide +kernel
theorem d_Mc_mayBegin_20 : decode b_Mc_mayBegin 20 = .ok (.aload_n 0, 1) := by decide +kernel
theorem d_Mc_mayBegin_21 : decode b_Mc_mayBegin 21 = .ok (.getfield 25, 3) := by decide +kernel
theorem d_Mc_mayBegin_24 : decode b_Mc_mayBegin 24 = .ok (.aload_n 1, 1) := by decide +kernel
theorem d_Mc_mayBegin_25 : decode b_Mc_mayBegin 25 = .ok (.getfield 183, 3) := by decide +kernel
theorem d_Mc_mayBegin_28 : decode b_Mc_mayBegin 28 = .ok (.aaload, 1) := by decide +kernel
theorem d_Mc_mayBegin_29 : decode b_Mc_mayBegin 29 = .ok (.getfield 99, 3) := by decide +kernel
theorem d_Mc_mayBegin_32 : decode b_Mc_mayBegin 32 = .ok (.iconst 2, 1) := by decide +kernel
theorem d_Mc_mayBegin_33 : decode b_Mc_mayBegin 33 = .ok (.if_icmp .ne (7), 3) := by decide +kernel
theorem d_Mc_mayBegin_36 : decode b_Mc_mayBegin 36 = .ok (.iconst 1, 1) := by decide +kernel
theorem d_Mc_mayBegin_37 : decode b_Mc_mayBegin 37 = .ok (.goto (4), 3) := by decide +kernel
theorem d_Mc_mayBegin_40 : decode b_Mc_mayBegin 40 = .ok (.iconst 0, 1) := by decide +kernel
theorem d_Mc_mayBegin_41 : decode b_Mc_mayBegin 41 = .ok (.ireturn, 1) := by decide +kernel
theorem d_Mc_putInQueue_0 : decode b_Mc_putInQueue 0 = .ok (.aload_n 0, 1) := by decide +kernel
theorem d_Mc_putInQueue_1 : decode b_Mc_putInQueue 1 = .ok (.getfield 19, 3) := by decide +kernel
theorem d_Mc_putInQueue_4 : decode b_Mc_putInQueue 4 = .ok (.aload_n 0, 1) := by decide +kernel
theorem d_Mc_putInQueue_5 : decode b_Mc_putInQueue 5 = .ok (.getfield 25, 3) := by decide +kernel
theorem d_Mc_putInQueue_8 : decode b_Mc_putInQueue 8 = .ok (.iload_n 1, 1) := by decide +kernel
theorem d_Mc_putInQueue_9 : decode b_Mc_putInQueue 9 = .ok (.aaload, 1) := by decide +kernel
theorem d_Mc_putInQueue_10 : decode b_Mc_putInQueue 10 = .ok (.getfield 190, 3) := by decide +kernel
theorem d_Mc_putInQueue_13 : decode b_Mc_putInQueue 13 = .ok (.aaload, 1) := by decide +kernel
theorem d_Mc_putInQueue_14 : decode b_Mc_putInQueue 14 = .ok (.astore_n 2, 1) := by decide +kernel
theorem d_Mc_putInQueue_15 : decode b_Mc_putInQueue 15 = .ok (.aload_n 0, 1) := by decide +kernel
theorem d_Mc_putInQueue_16 : decode b_Mc_putInQueue 16 = .ok (.getfield 173, 3) := by decide +kernel
theorem d_Mc_putInQueue_19 : decode b_Mc_putInQueue 19 = .ok (.istore_n 3, 1) := by decide +kernel
theorem d_Mc_putInQueue_20 : decode b_Mc_putInQueue 20 = .ok (.iload_n 3, 1) := by decide +kernel
theorem d_Mc_putInQueue_21 : decode b_Mc_putInQueue 21 = .ok (.ifCond .le (51), 3) := by decide +kernel
theorem d_Mc_putInQueue_24 : decode b_Mc_putInQueue 24 = .ok (.aload_n 2, 1) := by decide +kernel
theorem d_Mc_putInQueue_25 : decode b_Mc_putInQueue 25 = .ok (.aload_n 0, 1) := by decide +kernel
theorem d_Mc_putInQueue_26 : decode b_Mc_putInQueue 26 = .ok (.getfield 19, 3) := by decide +kernel
theorem d_Mc_putInQueue_29 : decode b_Mc_putInQueue 29 = .ok (.aload_n 0, 1) := by decide +kernel
theorem d_Mc_putInQueue_30 : decode b_Mc_putInQueue 30 = .ok (.getfield 25, 3) := by decide +kernel
theorem d_Mc_putInQueue_33 : decode b_Mc_putInQueue 33 = .ok (.aload_n 0, 1) := by decide +kernel
theorem d_Mc_putInQueue_34 : decode b_Mc_putInQueue 34 = .ok (.getfield 48, 3) := by decide +kernel
theorem d_Mc_putInQueue_37 : decode b_Mc_putInQueue 37 = .ok (.iload_n 3, 1) := by decide +kernel
theorem d_Mc_putInQueue_38 : decode b_Mc_putInQueue 38 = .ok (.iconst 1, 1) := by decide +kernel
theorem d_Mc_putInQueue_39 : decode b_Mc_putInQueue 39 = .ok (.isub, 1) := by decide +kernel
theorem d_Mc_putInQueue_40 : decode b_Mc_putInQueue 40 = .ok (.iaload, 1) := by decide +kernel
theorem d_Mc_putInQueue_41 : decode b_Mc_putInQueue 41 = .ok (.aaload, 1) := by decide +kernel
theorem d_Mc_putInQueue_42 : decode b_Mc_putInQueue 42 = .ok (.getfield 190, 3) := by decide +kernel
theorem d_Mc_putInQueue_45 : decode b_Mc_putInQueue 45 = .ok (.aaload, 1) := by decide +kernel
theorem d_Mc_putInQueue_46 : decode b_Mc_putInQueue 46 = .ok (.invokevirtual 193, 3) := by decide +kernel
theorem d_Mc_putInQueue_49 : decode b_Mc_putInQueue 49 = .ok (.ifCond .eq (23), 3) := by decide +kernel
theorem d_Mc_putInQueue_52 : decode b_Mc_putInQueue 52 = .ok (.aload_n 0, 1) := by decide +kernel
theorem d_Mc_putInQueue_53 : decode b_Mc_putInQueue 53 = .ok (.getfield 48, 3) := by decide +kernel
theorem d_Mc_putInQueue_56 : decode b_Mc_putInQueue 56 = .ok (.iload_n 3, 1) := by decide +kernel
theorem d_Mc_putInQueue_57 : decode b_Mc_putInQueue 57 = .ok (.aload_n 0, 1) := by decide +kernel
theorem d_Mc_putInQueue_58 : decode b_Mc_putInQueue 58 = .ok (.getfield 48, 3) := by decide +kernel
theorem d_Mc_putInQueue_61 : decode b_Mc_putInQueue 61 = .ok (.iload_n 3, 1) := by decide +kernel
theorem d_Mc_putInQueue_62 : decode b_Mc_putInQueue 62 = .ok (.iconst 1, 1) := by decide +kernel
theorem d_Mc_putInQueue_63 : decode b_Mc_putInQueue 63 = .ok (.isub, 1) := by decide +kernel
theorem d_Mc_putInQueue_64 : decode b_Mc_putInQueue 64 = .ok (.iaload, 1) := by decide +kernel
theorem d_Mc_putInQueue_65 : decode b_Mc_putInQueue 65 = .ok (.iastore, 1) := by decide +kernel
theorem d_Mc_putInQueue_66 : decode b_Mc_putInQueue 66 = .ok (.iinc 3 (-1), 3) := by decide +kernel
theorem d_Mc_putInQueue_69 : decode b_Mc_putInQueue 69 = .ok (.goto (-49), 3) := by decide +kernel
theorem d_Mc_putInQueue_72 : decode b_Mc_putInQueue 72 = .ok (.aload_n 0, 1) := by decide +kernel
theorem d_Mc_putInQueue_73 : decode b_Mc_putInQueue 73 = .ok (.getfield 48, 3) := by decide +kernel
theorem d_Mc_putInQueue_76 : decode b_Mc_putInQueue 76 = .ok (.iload_n 3, 1) := by decide +kernel
theorem d_Mc_putInQueue_77 : decode b_Mc_putInQueue 77 = .ok (.iload_n 1, 1) := by decide +kernel
theorem d_Mc_putInQueue_78 : decode b_Mc_putInQueue 78 = .ok (.iastore, 1) := by decide +kernel
theorem d_Mc_putInQueue_79 : decode b_Mc_putInQueue 79 = .ok (.aload_n 0, 1) := by decide +kernel
theorem d_Mc_putInQueue_80 : decode b_Mc_putInQueue 80 = .ok (.dup, 1) := by decide +kernel
theorem d_Mc_putInQueue_81 : decode b_Mc_putInQueue 81 = .ok (.getfield 173, 3) := by decide +kernel
theorem d_Mc_putInQueue_84 : decode b_Mc_putInQueue 84 = .ok (.iconst 1, 1) := by decide +kernel
theorem d_Mc_putInQueue_85 : decode b_Mc_putInQueue 85 = .ok (.iadd, 1) := by decide +kernel
theorem d_Mc_putInQueue_86 : decode b_Mc_putInQueue 86 = .ok (.putfield 173, 3) := by decide +kernel
theorem d_Mc_putInQueue_89 : decode b_Mc_putInQueue 89 = .ok (.return_, 1) := by decide +kernel
theorem d_Mc_serveQueue_0 : decode b_Mc_serveQueue 0 = .ok (.aload_n 0, 1) := by decide +kernel
theorem d_Mc_serveQueue_1 : decode b_Mc_serveQueue 1 = .ok (.getfield 65, 3) := by decide +kernel
theorem d_Mc_serveQueue_4 : decode b_Mc_serveQueue 4 = .ok (.istore_n 1, 1) := by decide +kernel
theorem d_Mc_serveQueue_5 : decode b_Mc_serveQueue 5 = .ok (.aload_n 0, 1) := by decide +kernel
theorem d_Mc_serveQueue_6 : decode b_Mc_serveQueue 6 = .ok (.iconst (-1), 1) := by decide +kernel
theorem d_Mc_serveQueue_7 : decode b_Mc_serveQueue 7 = .ok (.putfield 42, 3) := by decide +kernel
theorem d_Mc_serveQueue_10 : decode b_Mc_serveQueue 10 = .ok (.aload_n 0, 1) := by decide +kernel
theorem d_Mc_serveQueue_11 : decode b_Mc_serveQueue 11 = .ok (.iconst (-1), 1) := by decide +kernel
theorem d_Mc_serveQueue_12 : decode b_Mc_serveQueue 12 = .ok (.putfield 45, 3) := by decide +kernel
theorem d_Mc_serveQueue_15 : decode b_Mc_serveQueue 15 = .ok (.iconst 0, 1) := by decide +kernel
theorem d_Mc_serveQueue_16 : decode b_Mc_serveQueue 16 = .ok (.istore_n 2, 1) := by decide +kernel
theorem d_Mc_serveQueue_17 : decode b_Mc_serveQueue 17 = .ok (.iload_n 2, 1) := by decide +kernel
theorem d_Mc_serveQueue_18 : decode b_Mc_serveQueue 18 = .ok (.aload_n 0, 1) := by decide +kernel
theorem d_Mc_serveQueue_19 : decode b_Mc_serveQueue 19 = .ok (.getfield 173, 3) := by decide +kernel
theorem d_Mc_serveQueue_22 : decode b_Mc_serveQueue 22 = .ok (.if_icmp .ge (128), 3) := by decide +kernel
theorem d_Mc_serveQueue_25 : decode b_Mc_serveQueue 25 = .ok (.aload_n 0, 1) := by decide +kernel
theorem d_Mc_serveQueue_26 : decode b_Mc_serveQueue 26 = .ok (.getfield 25, 3) := by decide +kernel
theorem d_Mc_serveQueue_29 : decode b_Mc_serveQueue 29 = .ok (.aload_n 0, 1) := by decide +kernel
theorem d_Mc_serveQueue_30 : decode b_Mc_serveQueue 30 = .ok (.getfield 48, 3) := by decide +kernel
theorem d_Mc_serveQueue_33 : decode b_Mc_serveQueue 33 = .ok (.iload_n 2, 1) := by decide +kernel
theorem d_Mc_serveQueue_34 : decode b_Mc_serveQueue 34 = .ok (.iaload, 1) := by decide +kernel
theorem d_Mc_serveQueue_35 : decode b_Mc_serveQueue 35 = .ok (.aaload, 1) := by decide +kernel
theorem d_Mc_serveQueue_36 : decode b_Mc_serveQueue 36 = .ok (.astore_n 3, 1) := by decide +kernel
theorem d_Mc_serveQueue_37 : decode b_Mc_serveQueue 37 = .ok (.aload_n 0, 1) := by decide +kernel
theorem d_Mc_serveQueue_38 : decode b_Mc_serveQueue 38 = .ok (.aload_n 3, 1) := by decide +kernel
theorem d_Mc_serveQueue_39 : decode b_Mc_serveQueue 39 = .ok (.aload_n 0, 1) := by decide +kernel
theorem d_Mc_serveQueue_40 : decode b_Mc_serveQueue 40 = .ok (.getfield 68, 3) := by decide +kernel
theorem d_Mc_serveQueue_43 : decode b_Mc_serveQueue 43 = .ok (.invokevirtual 197, 3) := by decide +kernel
theorem d_Mc_serveQueue_46 : decode b_Mc_serveQueue 46 = .ok (.ifCond .eq (11), 3) := by decide +kernel
theorem d_Mc_serveQueue_49 : decode b_Mc_serveQueue 49 = .ok (.aload_n 0, 1) := by decide +kernel
theorem d_Mc_serveQueue_50 : decode b_Mc_serveQueue 50 = .ok (.aload_n 3, 1) := by decide +kernel
theorem d_Mc_serveQueue_51 : decode b_Mc_serveQueue 51 = .ok (.invokevirtual 201, 3) := by decide +kernel
theorem d_Mc_serveQueue_54 : decode b_Mc_serveQueue 54 = .ok (.goto (90), 3) := by decide +kernel
theorem d_Mc_serveQueue_57 : decode b_Mc_serveQueue 57 = .ok (.aload_n 0, 1) := by decide +kernel
theorem d_Mc_serveQueue_58 : decode b_Mc_serveQueue 58 = .ok (.getfield 42, 3) := by decide +kernel
theorem d_Mc_serveQueue_61 : decode b_Mc_serveQueue 61 = .ok (.iconst (-1), 1) := by decide +kernel
theorem d_Mc_serveQueue_62 : decode b_Mc_serveQueue 62 = .ok (.if_icmp .ne (82), 3) := by decide +kernel
theorem d_Mc_serveQueue_65 : decode b_Mc_serveQueue 65 = .ok (.aload_n 0, 1) := by decide +kernel
theorem d_Mc_serveQueue_66 : decode b_Mc_serveQueue 66 = .ok (.aload_n 0, 1) := by decide +kernel
theorem d_Mc_serveQueue_67 : decode b_Mc_serveQueue 67 = .ok (.getfield 48, 3) := by decide +kernel
theorem d_Mc_serveQueue_70 : decode b_Mc_serveQueue 70 = .ok (.iload_n 2, 1) := by decide +kernel
theorem d_Mc_serveQueue_71 : decode b_Mc_serveQueue 71 = .ok (.iaload, 1) := by decide +kernel
theorem d_Mc_serveQueue_72 : decode b_Mc_serveQueue 72 = .ok (.putfield 42, 3) := by decide +kernel
theorem d_Mc_serveQueue_75 : decode b_Mc_serveQueue 75 = .ok (.aload_n 0, 1) := by decide +kernel
theorem d_Mc_serveQueue_76 : decode b_Mc_serveQueue 76 = .ok (.aload_n 0, 1) := by decide +kernel
theorem d_Mc_serveQueue_77 : decode b_Mc_serveQueue 77 = .ok (.aload_n 3, 1) := by decide +kernel
theorem d_Mc_serveQueue_78 : decode b_Mc_serveQueue 78 = .ok (.invokevirtual 204, 3) := by decide +kernel
theorem d_Mc_serveQueue_81 : decode b_Mc_serveQueue 81 = .ok (.putfield 45, 3) := by decide +kernel
theorem d_Mc_serveQueue_84 : decode b_Mc_serveQueue 84 = .ok (.aload_n 0, 1) := by decide +kernel
theorem d_Mc_serveQueue_85 : decode b_Mc_serveQueue 85 = .ok (.getfield 45, 3) := by decide +kernel
theorem d_Mc_serveQueue_88 : decode b_Mc_serveQueue 88 = .ok (.iconst (-1), 1) := by decide +kernel
theorem d_Mc_serveQueue_89 : decode b_Mc_serveQueue 89 = .ok (.if_icmp .eq (55), 3) := by decide +kernel
theorem d_Mc_serveQueue_92 : decode b_Mc_serveQueue 92 = .ok (.aload_n 0, 1) := by decide +kernel
theorem d_Mc_serveQueue_93 : decode b_Mc_serveQueue 93 = .ok (.getfield 65, 3) := by decide +kernel
theorem d_Mc_serveQueue_96 : decode b_Mc_serveQueue 96 = .ok (.bipush (8), 2) := by decide +kernel
theorem d_Mc_serveQueue_98 : decode b_Mc_serveQueue 98 = .ok (.if_icmp .gt (46), 3) := by decide +kernel
theorem d_Mc_serveQueue_101 : decode b_Mc_serveQueue 101 = .ok (.aload_n 0, 1) := by decide +kernel
theorem d_Mc_serveQueue_102 : decode b_Mc_serveQueue 102 = .ok (.getfield 31, 3) := by decide +kernel
theorem d_Mc_serveQueue_105 : decode b_Mc_serveQueue 105 = .ok (.aload_n 0, 1) := by decide +kernel
theorem d_Mc_serveQueue_106 : decode b_Mc_serveQueue 106 = .ok (.getfield 65, 3) := by decide +kernel
theorem d_Mc_serveQueue_109 : decode b_Mc_serveQueue 109 = .ok (.aaload, 1) := by decide +kernel
theorem d_Mc_serveQueue_110 : decode b_Mc_serveQueue 110 = .ok (.aload_n 3, 1) := by decide +kernel
theorem d_Mc_serveQueue_111 : decode b_Mc_serveQueue 111 = .ok (.getfield 152, 3) := by decide +kernel
theorem d_Mc_serveQueue_114 : decode b_Mc_serveQueue 114 = .ok (.aload_n 3, 1) := by decide +kernel
theorem d_Mc_serveQueue_115 : decode b_Mc_serveQueue 115 = .ok (.getfield 133, 3) := by decide +kernel
theorem d_Mc_serveQueue_118 : decode b_Mc_serveQueue 118 = .ok (.aload_n 0, 1) := by decide +kernel
theorem d_Mc_serveQueue_119 : decode b_Mc_serveQueue 119 = .ok (.getfield 45, 3) := by decide +kernel
theorem d_Mc_serveQueue_122 : decode b_Mc_serveQueue 122 = .ok (.aload_n 0, 1) := by decide +kernel
theorem d_Mc_serveQueue_123 : decode b_Mc_serveQueue 123 = .ok (.getfield 45, 3) := by decide +kernel
theorem d_Mc_serveQueue_126 : decode b_Mc_serveQueue 126 = .ok (.aload_n 3, 1) := by decide +kernel
theorem d_Mc_serveQueue_127 : decode b_Mc_serveQueue 127 = .ok (.invokevirtual 148, 3) := by decide +kernel
theorem d_Mc_serveQueue_130 : decode b_Mc_serveQueue 130 = .ok (.iadd, 1) := by decide +kernel
theorem d_Mc_serveQueue_131 : decode b_Mc_serveQueue 131 = .ok (.invokevirtual 207, 3) := by decide +kernel
theorem d_Mc_serveQueue_134 : decode b_Mc_serveQueue 134 = .ok (.aload_n 0, 1) := by decide +kernel
theorem d_Mc_serveQueue_135 : decode b_Mc_serveQueue 135 = .ok (.dup, 1) := by decide +kernel
theorem d_Mc_serveQueue_136 : decode b_Mc_serveQueue 136 = .ok (.getfield 65, 3) := by decide +kernel
theorem d_Mc_serveQueue_139 : decode b_Mc_serveQueue 139 = .ok (.iconst 1, 1) := by decide +kernel
theorem d_Mc_serveQueue_140 : decode b_Mc_serveQueue 140 = .ok (.iadd, 1) := by decide +kernel
theorem d_Mc_serveQueue_141 : decode b_Mc_serveQueue 141 = .ok (.putfield 65, 3) := by decide +kernel
theorem d_Mc_serveQueue_144 : decode b_Mc_serveQueue 144 = .ok (.iinc 2 (1), 3) := by decide +kernel
theorem d_Mc_serveQueue_147 : decode b_Mc_serveQueue 147 = .ok (.goto (-130), 3) := by decide +kernel
theorem d_Mc_serveQueue_150 : decode b_Mc_serveQueue 150 = .ok (.aload_n 0, 1) := by decide +kernel
theorem d_Mc_serveQueue_151 : decode b_Mc_serveQueue 151 = .ok (.iload_n 1, 1) := by decide +kernel
theorem d_Mc_serveQueue_152 : decode b_Mc_serveQueue 152 = .ok (.putfield 65, 3) := by decide +kernel
theorem d_Mc_serveQueue_155 : decode b_Mc_serveQueue 155 = .ok (.return_, 1) := by decide +kernel
theorem d_Mc_firstFit_0 : decode b_Mc_firstFit 0 = .ok (.aload_n 0, 1) := by decide +kernel
theorem d_Mc_firstFit_1 : decode b_Mc_firstFit 1 = .ok (.aload_n 0, 1) := by decide +kernel
theorem d_Mc_firstFit_2 : decode b_Mc_firstFit 2 = .ok (.getfield 68, 3) := by decide +kernel
theorem d_Mc_firstFit_5 : decode b_Mc_firstFit 5 = .ok (.invokevirtual 211, 3) := by decide +kernel
theorem d_Mc_firstFit_8 : decode b_Mc_firstFit 8 = .ok (.istore_n 2, 1) := by decide +kernel
theorem d_Mc_firstFit_9 : decode b_Mc_firstFit 9 = .ok (.iconst 0, 1) := by decide +kernel
theorem d_Mc_firstFit_10 : decode b_Mc_firstFit 10 = .ok (.istore_n 3, 1) := by decide +kernel
theorem d_Mc_firstFit_11 : decode b_Mc_firstFit 11 = .ok (.iload_n 3, 1) := by decide +kernel
theorem d_Mc_firstFit_12 : decode b_Mc_firstFit 12 = .ok (.bipush (38), 2) := by decide +kernel
theorem d_Mc_firstFit_14 : decode b_Mc_firstFit 14 = .ok (.if_icmp .ge (45), 3) := by decide +kernel
theorem d_Mc_firstFit_17 : decode b_Mc_firstFit 17 = .ok (.iload_n 2, 1) := by decide +kernel
theorem d_Mc_firstFit_18 : decode b_Mc_firstFit 18 = .ok (.iconst (-1), 1) := by decide +kernel
theorem d_Mc_firstFit_19 : decode b_Mc_firstFit 19 = .ok (.if_icmp .eq (15), 3) := by decide +kernel
theorem d_Mc_firstFit_22 : decode b_Mc_firstFit 22 = .ok (.iload_n 2, 1) := by decide +kernel
theorem d_Mc_firstFit_23 : decode b_Mc_firstFit 23 = .ok (.aload_n 0, 1) := by decide +kernel
theorem d_Mc_firstFit_24 : decode b_Mc_firstFit 24 = .ok (.getfield 68, 3) := by decide +kernel
theorem d_Mc_firstFit_27 : decode b_Mc_firstFit 27 = .ok (.sipush (200), 3) := by decide +kernel
theorem d_Mc_firstFit_30 : decode b_Mc_firstFit 30 = .ok (.iadd, 1) := by decide +kernel
theorem d_Mc_firstFit_31 : decode b_Mc_firstFit 31 = .ok (.if_icmp .le (5), 3) := by decide +kernel
theorem d_Mc_firstFit_34 : decode b_Mc_firstFit 34 = .ok (.iconst (-1), 1) := by decide +kernel
theorem d_Mc_firstFit_35 : decode b_Mc_firstFit 35 = .ok (.ireturn, 1) := by decide +kernel
theorem d_Mc_firstFit_36 : decode b_Mc_firstFit 36 = .ok (.aload_n 0, 1) := by decide +kernel
theorem d_Mc_firstFit_37 : decode b_Mc_firstFit 37 = .ok (.aload_n 1, 1) := by decide +kernel
theorem d_Mc_firstFit_38 : decode b_Mc_firstFit 38 = .ok (.iload_n 2, 1) := by decide +kernel
theorem d_Mc_firstFit_39 : decode b_Mc_firstFit 39 = .ok (.invokevirtual 197, 3) := by decide +kernel
theorem d_Mc_firstFit_42 : decode b_Mc_firstFit 42 = .ok (.ifCond .eq (5), 3) := by decide +kernel
theorem d_Mc_firstFit_45 : decode b_Mc_firstFit 45 = .ok (.iload_n 2, 1) := by decide +kernel
theorem d_Mc_firstFit_46 : decode b_Mc_firstFit 46 = .ok (.ireturn, 1) := by decide +kernel
theorem d_Mc_firstFit_47 : decode b_Mc_firstFit 47 = .ok (.aload_n 0, 1) := by decide +kernel
theorem d_Mc_firstFit_48 : decode b_Mc_firstFit 48 = .ok (.iload_n 2, 1) := by decide +kernel
theorem d_Mc_firstFit_49 : decode b_Mc_firstFit 49 = .ok (.invokevirtual 211, 3) := by decide +kernel
theorem d_Mc_firstFit_52 : decode b_Mc_firstFit 52 = .ok (.istore_n 2, 1) := by decide +kernel
theorem d_Mc_firstFit_53 : decode b_Mc_firstFit 53 = .ok (.iinc 3 (1), 3) := by decide +kernel
theorem d_Mc_firstFit_56 : decode b_Mc_firstFit 56 = .ok (.goto (-45), 3) := by decide +kernel
theorem d_Mc_firstFit_59 : decode b_Mc_firstFit 59 = .ok (.iconst (-1), 1) := by decide +kernel
theorem d_Mc_firstFit_60 : decode b_Mc_firstFit 60 = .ok (.ireturn, 1) := by decide +kernel
theorem d_Mc_nextEnd_0 : decode b_Mc_nextEnd 0 = .ok (.iconst (-1), 1) := by decide +kernel
theorem d_Mc_nextEnd_1 : decode b_Mc_nextEnd 1 = .ok (.istore_n 2, 1) := by decide +kernel
theorem d_Mc_nextEnd_2 : decode b_Mc_nextEnd 2 = .ok (.iconst 0, 1) := by decide +kernel
theorem d_Mc_nextEnd_3 : decode b_Mc_nextEnd 3 = .ok (.istore_n 3, 1) := by decide +kernel
theorem d_Mc_nextEnd_4 : decode b_Mc_nextEnd 4 = .ok (.iload_n 3, 1) := by decide +kernel
theorem d_Mc_nextEnd_5 : decode b_Mc_nextEnd 5 = .ok (.aload_n 0, 1) := by decide +kernel
theorem d_Mc_nextEnd_6 : decode b_Mc_nextEnd 6 = .ok (.getfield 62, 3) := by decide +kernel
theorem d_Mc_nextEnd_9 : decode b_Mc_nextEnd 9 = .ok (.if_icmp .ge (24), 3) := by decide +kernel
theorem d_Mc_nextEnd_12 : decode b_Mc_nextEnd 12 = .ok (.iload_n 2, 1) := by decide +kernel
theorem d_Mc_nextEnd_13 : decode b_Mc_nextEnd 13 = .ok (.aload_n 0, 1) := by decide +kernel
theorem d_Mc_nextEnd_14 : decode b_Mc_nextEnd 14 = .ok (.getfield 25, 3) := by decide +kernel
theorem d_Mc_nextEnd_17 : decode b_Mc_nextEnd 17 = .ok (.iload_n 3, 1) := by decide +kernel
theorem d_Mc_nextEnd_18 : decode b_Mc_nextEnd 18 = .ok (.aaload, 1) := by decide +kernel
theorem d_Mc_nextEnd_19 : decode b_Mc_nextEnd 19 = .ok (.getfield 123, 3) := by decide +kernel
theorem d_Mc_nextEnd_22 : decode b_Mc_nextEnd 22 = .ok (.iload_n 1, 1) := by decide +kernel
theorem d_Mc_nextEnd_23 : decode b_Mc_nextEnd 23 = .ok (.invokestatic 214, 3) := by decide +kernel
theorem d_Mc_nextEnd_26 : decode b_Mc_nextEnd 26 = .ok (.istore_n 2, 1) := by decide +kernel
theorem d_Mc_nextEnd_27 : decode b_Mc_nextEnd 27 = .ok (.iinc 3 (1), 3) := by decide +kernel
theorem d_Mc_nextEnd_30 : decode b_Mc_nextEnd 30 = .ok (.goto (-26), 3) := by decide +kernel
theorem d_Mc_nextEnd_33 : decode b_Mc_nextEnd 33 = .ok (.iconst 0, 1) := by decide +kernel
theorem d_Mc_nextEnd_34 : decode b_Mc_nextEnd 34 = .ok (.istore_n 3, 1) := by decide +kernel
theorem d_Mc_nextEnd_35 : decode b_Mc_nextEnd 35 = .ok (.iload_n 3, 1) := by decide +kernel
theorem d_Mc_nextEnd_36 : decode b_Mc_nextEnd 36 = .ok (.aload_n 0, 1) := by decide +kernel
theorem d_Mc_nextEnd_37 : decode b_Mc_nextEnd 37 = .ok (.getfield 65, 3) := by decide +kernel
theorem d_Mc_nextEnd_40 : decode b_Mc_nextEnd 40 = .ok (.if_icmp .ge (24), 3) := by decide +kernel
theorem d_Mc_nextEnd_43 : decode b_Mc_nextEnd 43 = .ok (.iload_n 2, 1) := by decide +kernel
theorem d_Mc_nextEnd_44 : decode b_Mc_nextEnd 44 = .ok (.aload_n 0, 1) := by decide +kernel
theorem d_Mc_nextEnd_45 : decode b_Mc_nextEnd 45 = .ok (.getfield 31, 3) := by decide +kernel
theorem d_Mc_nextEnd_48 : decode b_Mc_nextEnd 48 = .ok (.iload_n 3, 1) := by decide +kernel
theorem d_Mc_nextEnd_49 : decode b_Mc_nextEnd 49 = .ok (.aaload, 1) := by decide +kernel
theorem d_Mc_nextEnd_50 : decode b_Mc_nextEnd 50 = .ok (.getfield 129, 3) := by decide +kernel
theorem d_Mc_nextEnd_53 : decode b_Mc_nextEnd 53 = .ok (.iload_n 1, 1) := by decide +kernel
theorem d_Mc_nextEnd_54 : decode b_Mc_nextEnd 54 = .ok (.invokestatic 214, 3) := by decide +kernel
theorem d_Mc_nextEnd_57 : decode b_Mc_nextEnd 57 = .ok (.istore_n 2, 1) := by decide +kernel
theorem d_Mc_nextEnd_58 : decode b_Mc_nextEnd 58 = .ok (.iinc 3 (1), 3) := by decide +kernel
theorem d_Mc_nextEnd_61 : decode b_Mc_nextEnd 61 = .ok (.goto (-26), 3) := by decide +kernel
theorem d_Mc_nextEnd_64 : decode b_Mc_nextEnd 64 = .ok (.iload_n 2, 1) := by decide +kernel
theorem d_Mc_nextEnd_65 : decode b_Mc_nextEnd 65 = .ok (.ireturn, 1) := by decide +kernel
theorem d_Mc_nearer_0 : decode b_Mc_nearer 0 = .ok (.iload_n 1, 1) := by decide +kernel
theorem d_Mc_nearer_1 : decode b_Mc_nearer 1 = .ok (.iload_n 2, 1) := by decide +kernel
theorem d_Mc_nearer_2 : decode b_Mc_nearer 2 = .ok (.if_icmp .gt (5), 3) := by decide +kernel
theorem d_Mc_nearer_5 : decode b_Mc_nearer 5 = .ok (.iload_n 0, 1) := by decide +kernel
theorem d_Mc_nearer_6 : decode b_Mc_nearer 6 = .ok (.ireturn, 1) := by decide +kernel
theorem d_Mc_nearer_7 : decode b_Mc_nearer 7 = .ok (.iload_n 0, 1) := by decide +kernel
theorem d_Mc_nearer_8 : decode b_Mc_nearer 8 = .ok (.iconst (-1), 1) := by decide +kernel
theorem d_Mc_nearer_9 : decode b_Mc_nearer 9 = .ok (.if_icmp .ne (7), 3) := by decide +kernel
theorem d_Mc_nearer_12 : decode b_Mc_nearer 12 = .ok (.iload_n 1, 1) := by decide +kernel
theorem d_Mc_nearer_13 : decode b_Mc_nearer 13 = .ok (.goto (8), 3) := by decide +kernel
theorem d_Mc_nearer_16 : decode b_Mc_nearer 16 = .ok (.iload_n 0, 1) := by decide +kernel
theorem d_Mc_nearer_17 : decode b_Mc_nearer 17 = .ok (.iload_n 1, 1) := by decide +kernel
theorem d_Mc_nearer_18 : decode b_Mc_nearer 18 = .ok (.invokestatic 218, 3) := by decide +kernel
theorem d_Mc_nearer_21 : decode b_Mc_nearer 21 = .ok (.ireturn, 1) := by decide +kernel
theorem d_Mc_begin_0 : decode b_Mc_begin 0 = .ok (.aload_n 0, 1) := by decide +kernel
theorem d_Mc_begin_1 : decode b_Mc_begin 1 = .ok (.aload_n 1, 1) := by decide +kernel
theorem d_Mc_begin_2 : decode b_Mc_begin 2 = .ok (.getfield 152, 3) := by decide +kernel
theorem d_Mc_begin_5 : decode b_Mc_begin 5 = .ok (.invokevirtual 224, 3) := by decide +kernel
theorem d_Mc_begin_8 : decode b_Mc_begin 8 = .ok (.istore_n 2, 1) := by decide +kernel
theorem d_Mc_begin_9 : decode b_Mc_begin 9 = .ok (.aload_n 1, 1) := by decide +kernel
theorem d_Mc_begin_10 : decode b_Mc_begin 10 = .ok (.getfield 152, 3) := by decide +kernel
theorem d_Mc_begin_13 : decode b_Mc_begin 13 = .ok (.istore_n 3, 1) := by decide +kernel
theorem d_Mc_begin_14 : decode b_Mc_begin 14 = .ok (.iconst 0, 1) := by decide +kernel
theorem d_Mc_begin_15 : decode b_Mc_begin 15 = .ok (.istore 4, 2) := by decide +kernel
theorem d_Mc_begin_17 : decode b_Mc_begin 17 = .ok (.iload 4, 2) := by decide +kernel
theorem d_Mc_begin_19 : decode b_Mc_begin 19 = .ok (.aload_n 0, 1) := by decide +kernel
theorem d_Mc_begin_20 : decode b_Mc_begin 20 = .ok (.getfield 56, 3) := by decide +kernel
theorem d_Mc_begin_23 : decode b_Mc_begin 23 = .ok (.if_icmp .ge (65), 3) := by decide +kernel
theorem d_Mc_begin_26 : decode b_Mc_begin 26 = .ok (.iload_n 2, 1) := by decide +kernel
theorem d_Mc_begin_27 : decode b_Mc_begin 27 = .ok (.iload 4, 2) := by decide +kernel
theorem d_Mc_begin_29 : decode b_Mc_begin 29 = .ok (.ishr, 1) := by decide +kernel
theorem d_Mc_begin_30 : decode b_Mc_begin 30 = .ok (.iconst 1, 1) := by decide +kernel
theorem d_Mc_begin_31 : decode b_Mc_begin 31 = .ok (.iand, 1) := by decide +kernel
theorem d_Mc_begin_32 : decode b_Mc_begin 32 = .ok (.ifCond .eq (50), 3) := by decide +kernel
theorem d_Mc_begin_35 : decode b_Mc_begin 35 = .ok (.iload_n 3, 1) := by decide +kernel
theorem d_Mc_begin_36 : decode b_Mc_begin 36 = .ok (.aload_n 0, 1) := by decide +kernel
theorem d_Mc_begin_37 : decode b_Mc_begin 37 = .ok (.getfield 11, 3) := by decide +kernel
theorem d_Mc_begin_40 : decode b_Mc_begin 40 = .ok (.iload 4, 2) := by decide +kernel
theorem d_Mc_begin_42 : decode b_Mc_begin 42 = .ok (.aaload, 1) := by decide +kernel
theorem d_Mc_begin_43 : decode b_Mc_begin 43 = .ok (.getfield 90, 3) := by decide +kernel
theorem d_Mc_begin_46 : decode b_Mc_begin 46 = .ok (.invokestatic 218, 3) := by decide +kernel
theorem d_Mc_begin_49 : decode b_Mc_begin 49 = .ok (.istore 5, 2) := by decide +kernel
theorem d_Mc_begin_51 : decode b_Mc_begin 51 = .ok (.aload_n 0, 1) := by decide +kernel
theorem d_Mc_begin_52 : decode b_Mc_begin 52 = .ok (.getfield 11, 3) := by decide +kernel
theorem d_Mc_begin_55 : decode b_Mc_begin 55 = .ok (.iload 4, 2) := by decide +kernel
theorem d_Mc_begin_57 : decode b_Mc_begin 57 = .ok (.aaload, 1) := by decide +kernel
theorem d_Mc_begin_58 : decode b_Mc_begin 58 = .ok (.dup, 1) := by decide +kernel
theorem d_Mc_begin_59 : decode b_Mc_begin 59 = .ok (.getfield 90, 3) := by decide +kernel
theorem d_Mc_begin_62 : decode b_Mc_begin 62 = .ok (.iload 5, 2) := by decide +kernel
theorem d_Mc_begin_64 : decode b_Mc_begin 64 = .ok (.isub, 1) := by decide +kernel
theorem d_Mc_begin_65 : decode b_Mc_begin 65 = .ok (.putfield 90, 3) := by decide +kernel
theorem d_Mc_begin_68 : decode b_Mc_begin 68 = .ok (.aload_n 1, 1) := by decide +kernel
theorem d_Mc_begin_69 : decode b_Mc_begin 69 = .ok (.getfield 113, 3) := by decide +kernel
theorem d_Mc_begin_72 : decode b_Mc_begin 72 = .ok (.iload 4, 2) := by decide +kernel
theorem d_Mc_begin_74 : decode b_Mc_begin 74 = .ok (.iload 5, 2) := by decide +kernel
theorem d_Mc_begin_76 : decode b_Mc_begin 76 = .ok (.iastore, 1) := by decide +kernel
theorem d_Mc_begin_77 : decode b_Mc_begin 77 = .ok (.iload_n 3, 1) := by decide +kernel
theorem d_Mc_begin_78 : decode b_Mc_begin 78 = .ok (.iload 5, 2) := by decide +kernel
theorem d_Mc_begin_80 : decode b_Mc_begin 80 = .ok (.isub, 1) := by decide +kernel
theorem d_Mc_begin_81 : decode b_Mc_begin 81 = .ok (.istore_n 3, 1) := by decide +kernel
theorem d_Mc_begin_82 : decode b_Mc_begin 82 = .ok (.iinc 4 (1), 3) := by decide +kernel
theorem d_Mc_begin_85 : decode b_Mc_begin 85 = .ok (.goto (-68), 3) := by decide +kernel
theorem d_Mc_begin_88 : decode b_Mc_begin 88 = .ok (.aload_n 1, 1) := by decide +kernel
theorem d_Mc_begin_89 : decode b_Mc_begin 89 = .ok (.iconst 1, 1) := by decide +kernel
theorem d_Mc_begin_90 : decode b_Mc_begin 90 = .ok (.putfield 99, 3) := by decide +kernel
theorem d_Mc_begin_93 : decode b_Mc_begin 93 = .ok (.aload_n 1, 1) := by decide +kernel
theorem d_Mc_begin_94 : decode b_Mc_begin 94 = .ok (.aload_n 0, 1) := by decide +kernel
theorem d_Mc_begin_95 : decode b_Mc_begin 95 = .ok (.getfield 68, 3) := by decide +kernel
theorem d_Mc_begin_98 : decode b_Mc_begin 98 = .ok (.putfield 227, 3) := by decide +kernel
theorem d_Mc_begin_101 : decode b_Mc_begin 101 = .ok (.aload_n 1, 1) := by decide +kernel
theorem d_Mc_begin_102 : decode b_Mc_begin 102 = .ok (.aload_n 1, 1) := by decide +kernel
theorem d_Mc_begin_103 : decode b_Mc_begin 103 = .ok (.getfield 152, 3) := by decide +kernel
theorem d_Mc_begin_106 : decode b_Mc_begin 106 = .ok (.putfield 110, 3) := by decide +kernel
theorem d_Mc_begin_109 : decode b_Mc_begin 109 = .ok (.aload_n 1, 1) := by decide +kernel
theorem d_Mc_begin_110 : decode b_Mc_begin 110 = .ok (.aload_n 0, 1) := by decide +kernel
theorem d_Mc_begin_111 : decode b_Mc_begin 111 = .ok (.getfield 68, 3) := by decide +kernel
theorem d_Mc_begin_114 : decode b_Mc_begin 114 = .ok (.aload_n 1, 1) := by decide +kernel
theorem d_Mc_begin_115 : decode b_Mc_begin 115 = .ok (.invokevirtual 148, 3) := by decide +kernel
theorem d_Mc_begin_118 : decode b_Mc_begin 118 = .ok (.iadd, 1) := by decide +kernel
theorem d_Mc_begin_119 : decode b_Mc_begin 119 = .ok (.putfield 123, 3) := by decide +kernel
theorem d_Mc_begin_122 : decode b_Mc_begin 122 = .ok (.return_, 1) := by decide +kernel
theorem d_Mc_fewestRacks_0 : decode b_Mc_fewestRacks 0 = .ok (.iconst 0, 1) := by decide +kernel
theorem d_Mc_fewestRacks_1 : decode b_Mc_fewestRacks 1 = .ok (.istore_n 2, 1) := by decide +kernel
theorem d_Mc_fewestRacks_2 : decode b_Mc_fewestRacks 2 = .ok (.iconst 1, 1) := by decide +kernel
theorem d_Mc_fewestRacks_3 : decode b_Mc_fewestRacks 3 = .ok (.istore_n 3, 1) := by decide +kernel
theorem d_Mc_fewestRacks_4 : decode b_Mc_fewestRacks 4 = .ok (.iload_n 3, 1) := by decide +kernel
theorem d_Mc_fewestRacks_5 : decode b_Mc_fewestRacks 5 = .ok (.iconst 1, 1) := by decide +kernel
theorem d_Mc_fewestRacks_6 : decode b_Mc_fewestRacks 6 = .ok (.aload_n 0, 1) := by decide +kernel
theorem d_Mc_fewestRacks_7 : decode b_Mc_fewestRacks 7 = .ok (.getfield 56, 3) := by decide +kernel
theorem d_Mc_fewestRacks_10 : decode b_Mc_fewestRacks 10 = .ok (.ishl, 1) := by decide +kernel
theorem d_Mc_fewestRacks_11 : decode b_Mc_fewestRacks 11 = .ok (.if_icmp .ge (47), 3) := by decide +kernel
theorem d_Mc_fewestRacks_14 : decode b_Mc_fewestRacks 14 = .ok (.iload_n 2, 1) := by decide +kernel
theorem d_Mc_fewestRacks_15 : decode b_Mc_fewestRacks 15 = .ok (.ifCond .eq (14), 3) := by decide +kernel
theorem d_Mc_fewestRacks_18 : decode b_Mc_fewestRacks 18 = .ok (.iload_n 3, 1) := by decide +kernel
theorem d_Mc_fewestRacks_19 : decode b_Mc_fewestRacks 19 = .ok (.invokestatic 230, 3) := by decide +kernel
theorem d_Mc_fewestRacks_22 : decode b_Mc_fewestRacks 22 = .ok (.iload_n 2, 1) := by decide +kernel
theorem d_Mc_fewestRacks_23 : decode b_Mc_fewestRacks 23 = .ok (.invokestatic 230, 3) := by decide +kernel
theorem d_Mc_fewestRacks_26 : decode b_Mc_fewestRacks 26 = .ok (.if_icmp .ge (7), 3) := by decide +kernel
theorem d_Mc_fewestRacks_29 : decode b_Mc_fewestRacks 29 = .ok (.iconst 1, 1) := by decide +kernel
theorem d_Mc_fewestRacks_30 : decode b_Mc_fewestRacks 30 = .ok (.goto (4), 3) := by decide +kernel
theorem d_Mc_fewestRacks_33 : decode b_Mc_fewestRacks 33 = .ok (.iconst 0, 1) := by decide +kernel
theorem d_Mc_fewestRacks_34 : decode b_Mc_fewestRacks 34 = .ok (.istore 4, 2) := by decide +kernel
theorem d_Mc_fewestRacks_36 : decode b_Mc_fewestRacks 36 = .ok (.iload 4, 2) := by decide +kernel
theorem d_Mc_fewestRacks_38 : decode b_Mc_fewestRacks 38 = .ok (.ifCond .eq (14), 3) := by decide +kernel
theorem d_Mc_fewestRacks_41 : decode b_Mc_fewestRacks 41 = .ok (.aload_n 0, 1) := by decide +kernel
theorem d_Mc_fewestRacks_42 : decode b_Mc_fewestRacks 42 = .ok (.iload_n 3, 1) := by decide +kernel
theorem d_Mc_fewestRacks_43 : decode b_Mc_fewestRacks 43 = .ok (.invokevirtual 235, 3) := by decide +kernel
theorem d_Mc_fewestRacks_46 : decode b_Mc_fewestRacks 46 = .ok (.iload_n 1, 1) := by decide +kernel
theorem d_Mc_fewestRacks_47 : decode b_Mc_fewestRacks 47 = .ok (.if_icmp .lt (5), 3) := by decide +kernel
theorem d_Mc_fewestRacks_50 : decode b_Mc_fewestRacks 50 = .ok (.iload_n 3, 1) := by decide +kernel
theorem d_Mc_fewestRacks_51 : decode b_Mc_fewestRacks 51 = .ok (.istore_n 2, 1) := by decide +kernel
theorem d_Mc_fewestRacks_52 : decode b_Mc_fewestRacks 52 = .ok (.iinc 3 (1), 3) := by decide +kernel
theorem d_Mc_fewestRacks_55 : decode b_Mc_fewestRacks 55 = .ok (.goto (-51), 3) := by decide +kernel
theorem d_Mc_fewestRacks_58 : decode b_Mc_fewestRacks 58 = .ok (.iload_n 2, 1) := by decide +kernel
theorem d_Mc_fewestRacks_59 : decode b_Mc_fewestRacks 59 = .ok (.ireturn, 1) := by decide +kernel
theorem d_Mc_unusedOn_0 : decode b_Mc_unusedOn 0 = .ok (.iconst 0, 1) := by decide +kernel
theorem d_Mc_unusedOn_1 : decode b_Mc_unusedOn 1 = .ok (.istore_n 2, 1) := by decide +kernel
theorem d_Mc_unusedOn_2 : decode b_Mc_unusedOn 2 = .ok (.iconst 0, 1) := by decide +kernel
theorem d_Mc_unusedOn_3 : decode b_Mc_unusedOn 3 = .ok (.istore_n 3, 1) := by decide +kernel
theorem d_Mc_unusedOn_4 : decode b_Mc_unusedOn 4 = .ok (.iload_n 3, 1) := by decide +kernel
theorem d_Mc_unusedOn_5 : decode b_Mc_unusedOn 5 = .ok (.aload_n 0, 1) := by decide +kernel
theorem d_Mc_unusedOn_6 : decode b_Mc_unusedOn 6 = .ok (.getfield 56, 3) := by decide +kernel
theorem d_Mc_unusedOn_9 : decode b_Mc_unusedOn 9 = .ok (.if_icmp .ge (43), 3) := by decide +kernel
theorem d_Mc_unusedOn_12 : decode b_Mc_unusedOn 12 = .ok (.iload_n 1, 1) := by decide +kernel
theorem d_Mc_unusedOn_13 : decode b_Mc_unusedOn 13 = .ok (.iload_n 3, 1) := by decide +kernel
theorem d_Mc_unusedOn_14 : decode b_Mc_unusedOn 14 = .ok (.ishr, 1) := by decide +kernel
theorem d_Mc_unusedOn_15 : decode b_Mc_unusedOn 15 = .ok (.iconst 1, 1) := by decide +kernel
theorem d_Mc_unusedOn_16 : decode b_Mc_unusedOn 16 = .ok (.iand, 1) := by decide +kernel
theorem d_Mc_unusedOn_17 : decode b_Mc_unusedOn 17 = .ok (.ifCond .eq (29), 3) := by decide +kernel
theorem d_Mc_unusedOn_20 : decode b_Mc_unusedOn 20 = .ok (.aload_n 0, 1) := by decide +kernel
theorem d_Mc_unusedOn_21 : decode b_Mc_unusedOn 21 = .ok (.getfield 11, 3) := by decide +kernel
theorem d_Mc_unusedOn_24 : decode b_Mc_unusedOn 24 = .ok (.iload_n 3, 1) := by decide +kernel
theorem d_Mc_unusedOn_25 : decode b_Mc_unusedOn 25 = .ok (.aaload, 1) := by decide +kernel
theorem d_Mc_unusedOn_26 : decode b_Mc_unusedOn 26 = .ok (.getfield 102, 3) := by decide +kernel
theorem d_Mc_unusedOn_29 : decode b_Mc_unusedOn 29 = .ok (.ifCond .eq (5), 3) := by decide +kernel
theorem d_Mc_unusedOn_32 : decode b_Mc_unusedOn 32 = .ok (.iconst 0, 1) := by decide +kernel
theorem d_Mc_unusedOn_33 : decode b_Mc_unusedOn 33 = .ok (.ireturn, 1) := by decide +kernel
theorem d_Mc_unusedOn_34 : decode b_Mc_unusedOn 34 = .ok (.iload_n 2, 1) := by decide +kernel
theorem d_Mc_unusedOn_35 : decode b_Mc_unusedOn 35 = .ok (.aload_n 0, 1) := by decide +kernel
theorem d_Mc_unusedOn_36 : decode b_Mc_unusedOn 36 = .ok (.getfield 11, 3) := by decide +kernel
theorem d_Mc_unusedOn_39 : decode b_Mc_unusedOn 39 = .ok (.iload_n 3, 1) := by decide +kernel
theorem d_Mc_unusedOn_40 : decode b_Mc_unusedOn 40 = .ok (.aaload, 1) := by decide +kernel
theorem d_Mc_unusedOn_41 : decode b_Mc_unusedOn 41 = .ok (.getfield 90, 3) := by decide +kernel
theorem d_Mc_unusedOn_44 : decode b_Mc_unusedOn 44 = .ok (.iadd, 1) := by decide +kernel
theorem d_Mc_unusedOn_45 : decode b_Mc_unusedOn 45 = .ok (.istore_n 2, 1) := by decide +kernel
theorem d_Mc_unusedOn_46 : decode b_Mc_unusedOn 46 = .ok (.iinc 3 (1), 3) := by decide +kernel
theorem d_Mc_unusedOn_49 : decode b_Mc_unusedOn 49 = .ok (.goto (-45), 3) := by decide +kernel
theorem d_Mc_unusedOn_52 : decode b_Mc_unusedOn 52 = .ok (.iload_n 2, 1) := by decide +kernel
theorem d_Mc_unusedOn_53 : decode b_Mc_unusedOn 53 = .ok (.ireturn, 1) := by decide +kernel
theorem d_Mc_runJobs_0 : decode b_Mc_runJobs 0 = .ok (.iconst 0, 1) := by decide +kernel
theorem d_Mc_runJobs_1 : decode b_Mc_runJobs 1 = .ok (.istore_n 2, 1) := by decide +kernel
theorem d_Mc_runJobs_2 : decode b_Mc_runJobs 2 = .ok (.iload_n 2, 1) := by decide +kernel
theorem d_Mc_runJobs_3 : decode b_Mc_runJobs 3 = .ok (.aload_n 0, 1) := by decide +kernel
theorem d_Mc_runJobs_4 : decode b_Mc_runJobs 4 = .ok (.getfield 62, 3) := by decide +kernel
theorem d_Mc_runJobs_7 : decode b_Mc_runJobs 7 = .ok (.if_icmp .ge (33), 3) := by decide +kernel
theorem d_Mc_runJobs_10 : decode b_Mc_runJobs 10 = .ok (.aload_n 0, 1) := by decide +kernel
theorem d_Mc_runJobs_11 : decode b_Mc_runJobs 11 = .ok (.getfield 25, 3) := by decide +kernel
theorem d_Mc_runJobs_14 : decode b_Mc_runJobs 14 = .ok (.iload_n 2, 1) := by decide +kernel
theorem d_Mc_runJobs_15 : decode b_Mc_runJobs 15 = .ok (.aaload, 1) := by decide +kernel
theorem d_Mc_runJobs_16 : decode b_Mc_runJobs 16 = .ok (.getfield 99, 3) := by decide +kernel
theorem d_Mc_runJobs_19 : decode b_Mc_runJobs 19 = .ok (.iconst 1, 1) := by decide +kernel
theorem d_Mc_runJobs_20 : decode b_Mc_runJobs 20 = .ok (.if_icmp .ne (14), 3) := by decide +kernel
theorem d_Mc_runJobs_23 : decode b_Mc_runJobs 23 = .ok (.aload_n 0, 1) := by decide +kernel
theorem d_Mc_runJobs_24 : decode b_Mc_runJobs 24 = .ok (.aload_n 0, 1) := by decide +kernel
theorem d_Mc_runJobs_25 : decode b_Mc_runJobs 25 = .ok (.getfield 25, 3) := by decide +kernel
theorem d_Mc_runJobs_28 : decode b_Mc_runJobs 28 = .ok (.iload_n 2, 1) := by decide +kernel
theorem d_Mc_runJobs_29 : decode b_Mc_runJobs 29 = .ok (.aaload, 1) := by decide +kernel
theorem d_Mc_runJobs_30 : decode b_Mc_runJobs 30 = .ok (.iload_n 1, 1) := by decide +kernel
theorem d_Mc_runJobs_31 : decode b_Mc_runJobs 31 = .ok (.invokevirtual 238, 3) := by decide +kernel
theorem d_Mc_runJobs_34 : decode b_Mc_runJobs 34 = .ok (.iinc 2 (1), 3) := by decide +kernel
theorem d_Mc_runJobs_37 : decode b_Mc_runJobs 37 = .ok (.goto (-35), 3) := by decide +kernel
theorem d_Mc_runJobs_40 : decode b_Mc_runJobs 40 = .ok (.return_, 1) := by decide +kernel
theorem d_Mc_runOne_0 : decode b_Mc_runOne 0 = .ok (.aload_n 0, 1) := by decide +kernel
theorem d_Mc_runOne_1 : decode b_Mc_runOne 1 = .ok (.getfield 19, 3) := by decide +kernel
theorem d_Mc_runOne_4 : decode b_Mc_runOne 4 = .ok (.aload_n 1, 1) := by decide +kernel
theorem d_Mc_runOne_5 : decode b_Mc_runOne 5 = .ok (.getfield 190, 3) := by decide +kernel
theorem d_Mc_runOne_8 : decode b_Mc_runOne 8 = .ok (.aaload, 1) := by decide +kernel
theorem d_Mc_runOne_9 : decode b_Mc_runOne 9 = .ok (.dup, 1) := by decide +kernel
theorem d_Mc_runOne_10 : decode b_Mc_runOne 10 = .ok (.getfield 242, 3) := by decide +kernel
theorem d_Mc_runOne_13 : decode b_Mc_runOne 13 = .ok (.aload_n 1, 1) := by decide +kernel
theorem d_Mc_runOne_14 : decode b_Mc_runOne 14 = .ok (.getfield 152, 3) := by decide +kernel
theorem d_Mc_runOne_17 : decode b_Mc_runOne 17 = .ok (.iadd, 1) := by decide +kernel
theorem d_Mc_runOne_18 : decode b_Mc_runOne 18 = .ok (.putfield 242, 3) := by decide +kernel
theorem d_Mc_runOne_21 : decode b_Mc_runOne 21 = .ok (.iload_n 2, 1) := by decide +kernel
theorem d_Mc_runOne_22 : decode b_Mc_runOne 22 = .ok (.ifCond .eq (10), 3) := by decide +kernel
theorem d_Mc_runOne_25 : decode b_Mc_runOne 25 = .ok (.aload_n 1, 1) := by decide +kernel
theorem d_Mc_runOne_26 : decode b_Mc_runOne 26 = .ok (.invokevirtual 148, 3) := by decide +kernel
theorem d_Mc_runOne_29 : decode b_Mc_runOne 29 = .ok (.goto (12), 3) := by decide +kernel
theorem d_Mc_runOne_32 : decode b_Mc_runOne 32 = .ok (.aload_n 1, 1) := by decide +kernel
theorem d_Mc_runOne_33 : decode b_Mc_runOne 33 = .ok (.getfield 245, 3) := by decide +kernel
theorem d_Mc_runOne_36 : decode b_Mc_runOne 36 = .ok (.aload_n 1, 1) := by decide +kernel
theorem d_Mc_runOne_37 : decode b_Mc_runOne 37 = .ok (.getfield 248, 3) := by decide +kernel
theorem d_Mc_runOne_40 : decode b_Mc_runOne 40 = .ok (.isub, 1) := by decide +kernel
theorem d_Mc_runOne_41 : decode b_Mc_runOne 41 = .ok (.istore_n 3, 1) := by decide +kernel
theorem d_Mc_runOne_42 : decode b_Mc_runOne 42 = .ok (.aload_n 1, 1) := by decide +kernel
theorem d_Mc_runOne_43 : decode b_Mc_runOne 43 = .ok (.aload_n 0, 1) := by decide +kernel
theorem d_Mc_runOne_44 : decode b_Mc_runOne 44 = .ok (.getfield 68, 3) := by decide +kernel
theorem d_Mc_runOne_47 : decode b_Mc_runOne 47 = .ok (.iconst 1, 1) := by decide +kernel
theorem d_Mc_runOne_48 : decode b_Mc_runOne 48 = .ok (.iadd, 1) := by decide +kernel
theorem d_Mc_runOne_49 : decode b_Mc_runOne 49 = .ok (.invokevirtual 251, 3) := by decide +kernel
theorem d_Mc_runOne_52 : decode b_Mc_runOne 52 = .ok (.iload_n 3, 1) := by decide +kernel
theorem d_Mc_runOne_53 : decode b_Mc_runOne 53 = .ok (.if_icmp .lt (23), 3) := by decide +kernel
theorem d_Mc_runOne_56 : decode b_Mc_runOne 56 = .ok (.aload_n 0, 1) := by decide +kernel
theorem d_Mc_runOne_57 : decode b_Mc_runOne 57 = .ok (.aload_n 1, 1) := by decide +kernel
theorem d_Mc_runOne_58 : decode b_Mc_runOne 58 = .ok (.invokevirtual 120, 3) := by decide +kernel
theorem d_Mc_runOne_61 : decode b_Mc_runOne 61 = .ok (.aload_n 1, 1) := by decide +kernel
theorem d_Mc_runOne_62 : decode b_Mc_runOne 62 = .ok (.iconst 2, 1) := by decide +kernel
theorem d_Mc_runOne_63 : decode b_Mc_runOne 63 = .ok (.putfield 99, 3) := by decide +kernel
theorem d_Mc_runOne_66 : decode b_Mc_runOne 66 = .ok (.aload_n 1, 1) := by decide +kernel
theorem d_Mc_runOne_67 : decode b_Mc_runOne 67 = .ok (.aload_n 0, 1) := by decide +kernel
theorem d_Mc_runOne_68 : decode b_Mc_runOne 68 = .ok (.getfield 68, 3) := by decide +kernel
theorem d_Mc_runOne_71 : decode b_Mc_runOne 71 = .ok (.iconst 1, 1) := by decide +kernel
theorem d_Mc_runOne_72 : decode b_Mc_runOne 72 = .ok (.iadd, 1) := by decide +kernel
theorem d_Mc_runOne_73 : decode b_Mc_runOne 73 = .ok (.putfield 254, 3) := by decide +kernel
theorem d_Mc_runOne_76 : decode b_Mc_runOne 76 = .ok (.return_, 1) := by decide +kernel
theorem d_Mc_halveUse_0 : decode b_Mc_halveUse 0 = .ok (.iconst 0, 1) := by decide +kernel
theorem d_Mc_halveUse_1 : decode b_Mc_halveUse 1 = .ok (.istore_n 1, 1) := by decide +kernel
theorem d_Mc_halveUse_2 : decode b_Mc_halveUse 2 = .ok (.iload_n 1, 1) := by decide +kernel
theorem d_Mc_halveUse_3 : decode b_Mc_halveUse 3 = .ok (.aload_n 0, 1) := by decide +kernel
theorem d_Mc_halveUse_4 : decode b_Mc_halveUse 4 = .ok (.getfield 59, 3) := by decide +kernel
theorem d_Mc_halveUse_7 : decode b_Mc_halveUse 7 = .ok (.if_icmp .ge (24), 3) := by decide +kernel
theorem d_Mc_halveUse_10 : decode b_Mc_halveUse 10 = .ok (.aload_n 0, 1) := by decide +kernel
theorem d_Mc_halveUse_11 : decode b_Mc_halveUse 11 = .ok (.getfield 19, 3) := by decide +kernel
theorem d_Mc_halveUse_14 : decode b_Mc_halveUse 14 = .ok (.iload_n 1, 1) := by decide +kernel
theorem d_Mc_halveUse_15 : decode b_Mc_halveUse 15 = .ok (.aaload, 1) := by decide +kernel
theorem d_Mc_halveUse_16 : decode b_Mc_halveUse 16 = .ok (.dup, 1) := by decide +kernel
theorem d_Mc_halveUse_17 : decode b_Mc_halveUse 17 = .ok (.getfield 242, 3) := by decide +kernel
theorem d_Mc_halveUse_20 : decode b_Mc_halveUse 20 = .ok (.iconst 2, 1) := by decide +kernel
theorem d_Mc_halveUse_21 : decode b_Mc_halveUse 21 = .ok (.idiv, 1) := by decide +kernel
theorem d_Mc_halveUse_22 : decode b_Mc_halveUse 22 = .ok (.putfield 242, 3) := by decide +kernel
theorem d_Mc_halveUse_25 : decode b_Mc_halveUse 25 = .ok (.iinc 1 (1), 3) := by decide +kernel
theorem d_Mc_halveUse_28 : decode b_Mc_halveUse 28 = .ok (.goto (-26), 3) := by decide +kernel
theorem d_Mc_halveUse_31 : decode b_Mc_halveUse 31 = .ok (.return_, 1) := by decide +kernel
