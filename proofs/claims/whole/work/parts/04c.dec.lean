theorem dX0_init_0 : decode cX0_init 0 = .ok (.aload_n 0, 1) := by decide +kernel
theorem dX0_init_1 : decode cX0_init 1 = .ok (.iload_n 1, 1) := by decide +kernel
theorem dX0_init_2 : decode cX0_init 2 = .ok (.iload_n 2, 1) := by decide +kernel
theorem dX0_init_3 : decode cX0_init 3 = .ok (.iload_n 3, 1) := by decide +kernel
theorem dX0_init_4 : decode cX0_init 4 = .ok (.aload 4, 2) := by decide +kernel
theorem dX0_init_6 : decode cX0_init 6 = .ok (.invokespecial 1, 3) := by decide +kernel
theorem dX0_init_9 : decode cX0_init 9 = .ok (.return_, 1) := by decide +kernel
theorem dX0_grants_0 : decode cX0_grants 0 = .ok (.aload_n 0, 1) := by decide +kernel
theorem dX0_grants_1 : decode cX0_grants 1 = .ok (.aload_n 1, 1) := by decide +kernel
theorem dX0_grants_2 : decode cX0_grants 2 = .ok (.iload_n 2, 1) := by decide +kernel
theorem dX0_grants_3 : decode cX0_grants 3 = .ok (.invokespecial 7, 3) := by decide +kernel
theorem dX0_grants_6 : decode cX0_grants 6 = .ok (.ifCond .eq 30, 3) := by decide +kernel
theorem dX0_grants_9 : decode cX0_grants 9 = .ok (.aload_n 1, 1) := by decide +kernel
theorem dX0_grants_10 : decode cX0_grants 10 = .ok (.iload_n 2, 1) := by decide +kernel
theorem dX0_grants_11 : decode cX0_grants 11 = .ok (.invokevirtual 11, 3) := by decide +kernel
theorem dX0_grants_14 : decode cX0_grants 14 = .ok (.ifCond .eq 22, 3) := by decide +kernel
theorem dX0_grants_17 : decode cX0_grants 17 = .ok (.aload_n 1, 1) := by decide +kernel
theorem dX0_grants_18 : decode cX0_grants 18 = .ok (.getfield 17, 3) := by decide +kernel
theorem dX0_grants_21 : decode cX0_grants 21 = .ok (.iload_n 2, 1) := by decide +kernel
theorem dX0_grants_22 : decode cX0_grants 22 = .ok (.iaload, 1) := by decide +kernel
theorem dX0_grants_23 : decode cX0_grants 23 = .ok (.iconst 3, 1) := by decide +kernel
theorem dX0_grants_24 : decode cX0_grants 24 = .ok (.aload_n 0, 1) := by decide +kernel
theorem dX0_grants_25 : decode cX0_grants 25 = .ok (.getfield 21, 3) := by decide +kernel
theorem dX0_grants_28 : decode cX0_grants 28 = .ok (.imul, 1) := by decide +kernel
theorem dX0_grants_29 : decode cX0_grants 29 = .ok (.if_icmp .gt 7, 3) := by decide +kernel
theorem dX0_grants_32 : decode cX0_grants 32 = .ok (.iconst 1, 1) := by decide +kernel
theorem dX0_grants_33 : decode cX0_grants 33 = .ok (.goto 4, 3) := by decide +kernel
theorem dX0_grants_36 : decode cX0_grants 36 = .ok (.iconst 0, 1) := by decide +kernel
theorem dX0_grants_37 : decode cX0_grants 37 = .ok (.ireturn, 1) := by decide +kernel
theorem dX0_tells_0 : decode cX0_tells 0 = .ok (.aload_n 0, 1) := by decide +kernel
theorem dX0_tells_1 : decode cX0_tells 1 = .ok (.bipush 60, 2) := by decide +kernel
theorem dX0_tells_3 : decode cX0_tells 3 = .ok (.invokevirtual 27, 3) := by decide +kernel
theorem dX0_tells_6 : decode cX0_tells 6 = .ok (.aload_n 0, 1) := by decide +kernel
theorem dX0_tells_7 : decode cX0_tells 7 = .ok (.iload_n 1, 1) := by decide +kernel
theorem dX0_tells_8 : decode cX0_tells 8 = .ok (.aload_n 0, 1) := by decide +kernel
theorem dX0_tells_9 : decode cX0_tells 9 = .ok (.getfield 31, 3) := by decide +kernel
theorem dX0_tells_12 : decode cX0_tells 12 = .ok (.isub, 1) := by decide +kernel
theorem dX0_tells_13 : decode cX0_tells 13 = .ok (.invokespecial 34, 3) := by decide +kernel
theorem dX0_tells_16 : decode cX0_tells 16 = .ok (.ireturn, 1) := by decide +kernel
theorem dX1_init_0 : decode cX1_init 0 = .ok (.aload_n 0, 1) := by decide +kernel
theorem dX1_init_1 : decode cX1_init 1 = .ok (.invokespecial 3, 3) := by decide +kernel
theorem dX1_init_4 : decode cX1_init 4 = .ok (.aload_n 0, 1) := by decide +kernel
theorem dX1_init_5 : decode cX1_init 5 = .ok (.bipush 7, 2) := by decide +kernel
theorem dX1_init_7 : decode cX1_init 7 = .ok (.newarray .int, 2) := by decide +kernel
theorem dX1_init_9 : decode cX1_init 9 = .ok (.putfield 9, 3) := by decide +kernel
theorem dX1_init_12 : decode cX1_init 12 = .ok (.aload_n 0, 1) := by decide +kernel
theorem dX1_init_13 : decode cX1_init 13 = .ok (.bipush 7, 2) := by decide +kernel
theorem dX1_init_15 : decode cX1_init 15 = .ok (.newarray .int, 2) := by decide +kernel
theorem dX1_init_17 : decode cX1_init 17 = .ok (.putfield 15, 3) := by decide +kernel
theorem dX1_init_20 : decode cX1_init 20 = .ok (.aload_n 0, 1) := by decide +kernel
theorem dX1_init_21 : decode cX1_init 21 = .ok (.bipush 7, 2) := by decide +kernel
theorem dX1_init_23 : decode cX1_init 23 = .ok (.newarray .int, 2) := by decide +kernel
theorem dX1_init_25 : decode cX1_init 25 = .ok (.putfield 18, 3) := by decide +kernel
theorem dX1_init_28 : decode cX1_init 28 = .ok (.aload_n 0, 1) := by decide +kernel
theorem dX1_init_29 : decode cX1_init 29 = .ok (.iconst 4, 1) := by decide +kernel
theorem dX1_init_30 : decode cX1_init 30 = .ok (.anewarray 21, 3) := by decide +kernel
theorem dX1_init_33 : decode cX1_init 33 = .ok (.putfield 23, 3) := by decide +kernel
theorem dX1_init_36 : decode cX1_init 36 = .ok (.aload_n 0, 1) := by decide +kernel
theorem dX1_init_37 : decode cX1_init 37 = .ok (.bipush 16, 2) := by decide +kernel
theorem dX1_init_39 : decode cX1_init 39 = .ok (.newarray .int, 2) := by decide +kernel
theorem dX1_init_41 : decode cX1_init 41 = .ok (.putfield 27, 3) := by decide +kernel
theorem dX1_init_44 : decode cX1_init 44 = .ok (.aload_n 0, 1) := by decide +kernel
theorem dX1_init_45 : decode cX1_init 45 = .ok (.bipush 8, 2) := by decide +kernel
theorem dX1_init_47 : decode cX1_init 47 = .ok (.newarray .boolean, 2) := by decide +kernel
theorem dX1_init_49 : decode cX1_init 49 = .ok (.putfield 30, 3) := by decide +kernel
theorem dX1_init_52 : decode cX1_init 52 = .ok (.aload_n 0, 1) := by decide +kernel
theorem dX1_init_53 : decode cX1_init 53 = .ok (.bipush 12, 2) := by decide +kernel
theorem dX1_init_55 : decode cX1_init 55 = .ok (.newarray .int, 2) := by decide +kernel
theorem dX1_init_57 : decode cX1_init 57 = .ok (.putfield 34, 3) := by decide +kernel
theorem dX1_init_60 : decode cX1_init 60 = .ok (.aload_n 0, 1) := by decide +kernel
theorem dX1_init_61 : decode cX1_init 61 = .ok (.bipush 60, 2) := by decide +kernel
theorem dX1_init_63 : decode cX1_init 63 = .ok (.putfield 37, 3) := by decide +kernel
theorem dX1_init_66 : decode cX1_init 66 = .ok (.aload_n 0, 1) := by decide +kernel
theorem dX1_init_67 : decode cX1_init 67 = .ok (.bipush 30, 2) := by decide +kernel
theorem dX1_init_69 : decode cX1_init 69 = .ok (.putfield 41, 3) := by decide +kernel
theorem dX1_init_72 : decode cX1_init 72 = .ok (.return_, 1) := by decide +kernel
theorem dX1_copy_0 : decode cX1_copy 0 = .ok (.aload_n 1, 1) := by decide +kernel
theorem dX1_copy_1 : decode cX1_copy 1 = .ok (.getfield 9, 3) := by decide +kernel
theorem dX1_copy_4 : decode cX1_copy 4 = .ok (.iconst 0, 1) := by decide +kernel
theorem dX1_copy_5 : decode cX1_copy 5 = .ok (.aload_n 0, 1) := by decide +kernel
theorem dX1_copy_6 : decode cX1_copy 6 = .ok (.getfield 9, 3) := by decide +kernel
theorem dX1_copy_9 : decode cX1_copy 9 = .ok (.iconst 0, 1) := by decide +kernel
theorem dX1_copy_10 : decode cX1_copy 10 = .ok (.bipush 7, 2) := by decide +kernel
theorem dX1_copy_12 : decode cX1_copy 12 = .ok (.invokestatic 44, 3) := by decide +kernel
theorem dX1_copy_15 : decode cX1_copy 15 = .ok (.aload_n 1, 1) := by decide +kernel
theorem dX1_copy_16 : decode cX1_copy 16 = .ok (.getfield 15, 3) := by decide +kernel
theorem dX1_copy_19 : decode cX1_copy 19 = .ok (.iconst 0, 1) := by decide +kernel
theorem dX1_copy_20 : decode cX1_copy 20 = .ok (.aload_n 0, 1) := by decide +kernel
theorem dX1_copy_21 : decode cX1_copy 21 = .ok (.getfield 15, 3) := by decide +kernel
theorem dX1_copy_24 : decode cX1_copy 24 = .ok (.iconst 0, 1) := by decide +kernel
theorem dX1_copy_25 : decode cX1_copy 25 = .ok (.bipush 7, 2) := by decide +kernel
theorem dX1_copy_27 : decode cX1_copy 27 = .ok (.invokestatic 44, 3) := by decide +kernel
theorem dX1_copy_30 : decode cX1_copy 30 = .ok (.aload_n 1, 1) := by decide +kernel
theorem dX1_copy_31 : decode cX1_copy 31 = .ok (.getfield 18, 3) := by decide +kernel
theorem dX1_copy_34 : decode cX1_copy 34 = .ok (.iconst 0, 1) := by decide +kernel
theorem dX1_copy_35 : decode cX1_copy 35 = .ok (.aload_n 0, 1) := by decide +kernel
theorem dX1_copy_36 : decode cX1_copy 36 = .ok (.getfield 18, 3) := by decide +kernel
theorem dX1_copy_39 : decode cX1_copy 39 = .ok (.iconst 0, 1) := by decide +kernel
theorem dX1_copy_40 : decode cX1_copy 40 = .ok (.bipush 7, 2) := by decide +kernel
theorem dX1_copy_42 : decode cX1_copy 42 = .ok (.invokestatic 44, 3) := by decide +kernel
theorem dX1_copy_45 : decode cX1_copy 45 = .ok (.iconst 0, 1) := by decide +kernel
theorem dX1_copy_46 : decode cX1_copy 46 = .ok (.istore_n 2, 1) := by decide +kernel
theorem dX1_copy_47 : decode cX1_copy 47 = .ok (.iload_n 2, 1) := by decide +kernel
theorem dX1_copy_48 : decode cX1_copy 48 = .ok (.iconst 4, 1) := by decide +kernel
theorem dX1_copy_49 : decode cX1_copy 49 = .ok (.if_icmp .ge 21, 3) := by decide +kernel
theorem dX1_copy_52 : decode cX1_copy 52 = .ok (.aload_n 0, 1) := by decide +kernel
theorem dX1_copy_53 : decode cX1_copy 53 = .ok (.getfield 23, 3) := by decide +kernel
theorem dX1_copy_56 : decode cX1_copy 56 = .ok (.iload_n 2, 1) := by decide +kernel
theorem dX1_copy_57 : decode cX1_copy 57 = .ok (.aload_n 1, 1) := by decide +kernel
theorem dX1_copy_58 : decode cX1_copy 58 = .ok (.getfield 23, 3) := by decide +kernel
theorem dX1_copy_61 : decode cX1_copy 61 = .ok (.iload_n 2, 1) := by decide +kernel
theorem dX1_copy_62 : decode cX1_copy 62 = .ok (.aaload, 1) := by decide +kernel
theorem dX1_copy_63 : decode cX1_copy 63 = .ok (.aastore, 1) := by decide +kernel
theorem dX1_copy_64 : decode cX1_copy 64 = .ok (.iinc 2 1, 3) := by decide +kernel
theorem dX1_copy_67 : decode cX1_copy 67 = .ok (.goto (-20), 3) := by decide +kernel
theorem dX1_copy_70 : decode cX1_copy 70 = .ok (.aload_n 1, 1) := by decide +kernel
theorem dX1_copy_71 : decode cX1_copy 71 = .ok (.getfield 27, 3) := by decide +kernel
theorem dX1_copy_74 : decode cX1_copy 74 = .ok (.iconst 0, 1) := by decide +kernel
theorem dX1_copy_75 : decode cX1_copy 75 = .ok (.aload_n 0, 1) := by decide +kernel
theorem dX1_copy_76 : decode cX1_copy 76 = .ok (.getfield 27, 3) := by decide +kernel
theorem dX1_copy_79 : decode cX1_copy 79 = .ok (.iconst 0, 1) := by decide +kernel
theorem dX1_copy_80 : decode cX1_copy 80 = .ok (.bipush 16, 2) := by decide +kernel
theorem dX1_copy_82 : decode cX1_copy 82 = .ok (.invokestatic 44, 3) := by decide +kernel
theorem dX1_copy_85 : decode cX1_copy 85 = .ok (.iconst 0, 1) := by decide +kernel
theorem dX1_copy_86 : decode cX1_copy 86 = .ok (.istore_n 2, 1) := by decide +kernel
theorem dX1_copy_87 : decode cX1_copy 87 = .ok (.iload_n 2, 1) := by decide +kernel
theorem dX1_copy_88 : decode cX1_copy 88 = .ok (.bipush 8, 2) := by decide +kernel
theorem dX1_copy_90 : decode cX1_copy 90 = .ok (.if_icmp .ge 21, 3) := by decide +kernel
theorem dX1_copy_93 : decode cX1_copy 93 = .ok (.aload_n 0, 1) := by decide +kernel
theorem dX1_copy_94 : decode cX1_copy 94 = .ok (.getfield 30, 3) := by decide +kernel
theorem dX1_copy_97 : decode cX1_copy 97 = .ok (.iload_n 2, 1) := by decide +kernel
theorem dX1_copy_98 : decode cX1_copy 98 = .ok (.aload_n 1, 1) := by decide +kernel
theorem dX1_copy_99 : decode cX1_copy 99 = .ok (.getfield 30, 3) := by decide +kernel
theorem dX1_copy_102 : decode cX1_copy 102 = .ok (.iload_n 2, 1) := by decide +kernel
theorem dX1_copy_103 : decode cX1_copy 103 = .ok (.baload, 1) := by decide +kernel
theorem dX1_copy_104 : decode cX1_copy 104 = .ok (.bastore, 1) := by decide +kernel
theorem dX1_copy_105 : decode cX1_copy 105 = .ok (.iinc 2 1, 3) := by decide +kernel
theorem dX1_copy_108 : decode cX1_copy 108 = .ok (.goto (-21), 3) := by decide +kernel
theorem dX1_copy_111 : decode cX1_copy 111 = .ok (.aload_n 1, 1) := by decide +kernel
theorem dX1_copy_112 : decode cX1_copy 112 = .ok (.getfield 34, 3) := by decide +kernel
theorem dX1_copy_115 : decode cX1_copy 115 = .ok (.iconst 0, 1) := by decide +kernel
theorem dX1_copy_116 : decode cX1_copy 116 = .ok (.aload_n 0, 1) := by decide +kernel
theorem dX1_copy_117 : decode cX1_copy 117 = .ok (.getfield 34, 3) := by decide +kernel
theorem dX1_copy_120 : decode cX1_copy 120 = .ok (.iconst 0, 1) := by decide +kernel
theorem dX1_copy_121 : decode cX1_copy 121 = .ok (.bipush 12, 2) := by decide +kernel
theorem dX1_copy_123 : decode cX1_copy 123 = .ok (.invokestatic 44, 3) := by decide +kernel
theorem dX1_copy_126 : decode cX1_copy 126 = .ok (.aload_n 0, 1) := by decide +kernel
theorem dX1_copy_127 : decode cX1_copy 127 = .ok (.aload_n 1, 1) := by decide +kernel
theorem dX1_copy_128 : decode cX1_copy 128 = .ok (.getfield 50, 3) := by decide +kernel
theorem dX1_copy_131 : decode cX1_copy 131 = .ok (.putfield 50, 3) := by decide +kernel
theorem dX1_copy_134 : decode cX1_copy 134 = .ok (.aload_n 0, 1) := by decide +kernel
theorem dX1_copy_135 : decode cX1_copy 135 = .ok (.aload_n 1, 1) := by decide +kernel
theorem dX1_copy_136 : decode cX1_copy 136 = .ok (.getfield 53, 3) := by decide +kernel
theorem dX1_copy_139 : decode cX1_copy 139 = .ok (.putfield 53, 3) := by decide +kernel
theorem dX1_copy_142 : decode cX1_copy 142 = .ok (.aload_n 0, 1) := by decide +kernel
theorem dX1_copy_143 : decode cX1_copy 143 = .ok (.aload_n 1, 1) := by decide +kernel
theorem dX1_copy_144 : decode cX1_copy 144 = .ok (.getfield 56, 3) := by decide +kernel
theorem dX1_copy_147 : decode cX1_copy 147 = .ok (.putfield 56, 3) := by decide +kernel
theorem dX1_copy_150 : decode cX1_copy 150 = .ok (.aload_n 0, 1) := by decide +kernel
theorem dX1_copy_151 : decode cX1_copy 151 = .ok (.aload_n 1, 1) := by decide +kernel
theorem dX1_copy_152 : decode cX1_copy 152 = .ok (.getfield 59, 3) := by decide +kernel
theorem dX1_copy_155 : decode cX1_copy 155 = .ok (.putfield 59, 3) := by decide +kernel
theorem dX1_copy_158 : decode cX1_copy 158 = .ok (.aload_n 0, 1) := by decide +kernel
theorem dX1_copy_159 : decode cX1_copy 159 = .ok (.aload_n 1, 1) := by decide +kernel
theorem dX1_copy_160 : decode cX1_copy 160 = .ok (.getfield 62, 3) := by decide +kernel
theorem dX1_copy_163 : decode cX1_copy 163 = .ok (.putfield 62, 3) := by decide +kernel
theorem dX1_copy_166 : decode cX1_copy 166 = .ok (.aload_n 0, 1) := by decide +kernel
theorem dX1_copy_167 : decode cX1_copy 167 = .ok (.aload_n 1, 1) := by decide +kernel
theorem dX1_copy_168 : decode cX1_copy 168 = .ok (.getfield 65, 3) := by decide +kernel
theorem dX1_copy_171 : decode cX1_copy 171 = .ok (.putfield 65, 3) := by decide +kernel
theorem dX1_copy_174 : decode cX1_copy 174 = .ok (.aload_n 0, 1) := by decide +kernel
theorem dX1_copy_175 : decode cX1_copy 175 = .ok (.aload_n 1, 1) := by decide +kernel
theorem dX1_copy_176 : decode cX1_copy 176 = .ok (.getfield 68, 3) := by decide +kernel
theorem dX1_copy_179 : decode cX1_copy 179 = .ok (.putfield 68, 3) := by decide +kernel
theorem dX1_copy_182 : decode cX1_copy 182 = .ok (.aload_n 0, 1) := by decide +kernel
theorem dX1_copy_183 : decode cX1_copy 183 = .ok (.aload_n 1, 1) := by decide +kernel
theorem dX1_copy_184 : decode cX1_copy 184 = .ok (.getfield 71, 3) := by decide +kernel
theorem dX1_copy_187 : decode cX1_copy 187 = .ok (.putfield 71, 3) := by decide +kernel
theorem dX1_copy_190 : decode cX1_copy 190 = .ok (.aload_n 0, 1) := by decide +kernel
theorem dX1_copy_191 : decode cX1_copy 191 = .ok (.aload_n 1, 1) := by decide +kernel
theorem dX1_copy_192 : decode cX1_copy 192 = .ok (.getfield 74, 3) := by decide +kernel
theorem dX1_copy_195 : decode cX1_copy 195 = .ok (.putfield 74, 3) := by decide +kernel
theorem dX1_copy_198 : decode cX1_copy 198 = .ok (.aload_n 0, 1) := by decide +kernel
theorem dX1_copy_199 : decode cX1_copy 199 = .ok (.aload_n 1, 1) := by decide +kernel
theorem dX1_copy_200 : decode cX1_copy 200 = .ok (.getfield 77, 3) := by decide +kernel
theorem dX1_copy_203 : decode cX1_copy 203 = .ok (.putfield 77, 3) := by decide +kernel
theorem dX1_copy_206 : decode cX1_copy 206 = .ok (.aload_n 0, 1) := by decide +kernel
theorem dX1_copy_207 : decode cX1_copy 207 = .ok (.aload_n 1, 1) := by decide +kernel
theorem dX1_copy_208 : decode cX1_copy 208 = .ok (.getfield 80, 3) := by decide +kernel
theorem dX1_copy_211 : decode cX1_copy 211 = .ok (.putfield 80, 3) := by decide +kernel
theorem dX1_copy_214 : decode cX1_copy 214 = .ok (.aload_n 0, 1) := by decide +kernel
theorem dX1_copy_215 : decode cX1_copy 215 = .ok (.aload_n 1, 1) := by decide +kernel
theorem dX1_copy_216 : decode cX1_copy 216 = .ok (.getfield 37, 3) := by decide +kernel
theorem dX1_copy_219 : decode cX1_copy 219 = .ok (.putfield 37, 3) := by decide +kernel
theorem dX1_copy_222 : decode cX1_copy 222 = .ok (.aload_n 0, 1) := by decide +kernel
theorem dX1_copy_223 : decode cX1_copy 223 = .ok (.aload_n 1, 1) := by decide +kernel
theorem dX1_copy_224 : decode cX1_copy 224 = .ok (.getfield 41, 3) := by decide +kernel
theorem dX1_copy_227 : decode cX1_copy 227 = .ok (.putfield 41, 3) := by decide +kernel
theorem dX1_copy_230 : decode cX1_copy 230 = .ok (.return_, 1) := by decide +kernel
theorem dX1_has_0 : decode cX1_has 0 = .ok (.iload_n 1, 1) := by decide +kernel
theorem dX1_has_1 : decode cX1_has 1 = .ok (.ifCond .lt 21, 3) := by decide +kernel
theorem dX1_has_4 : decode cX1_has 4 = .ok (.iload_n 1, 1) := by decide +kernel
theorem dX1_has_5 : decode cX1_has 5 = .ok (.aload_n 0, 1) := by decide +kernel
theorem dX1_has_6 : decode cX1_has 6 = .ok (.getfield 50, 3) := by decide +kernel
theorem dX1_has_9 : decode cX1_has 9 = .ok (.if_icmp .ge 13, 3) := by decide +kernel
theorem dX1_has_12 : decode cX1_has 12 = .ok (.iload_n 1, 1) := by decide +kernel
theorem dX1_has_13 : decode cX1_has 13 = .ok (.bipush 7, 2) := by decide +kernel
theorem dX1_has_15 : decode cX1_has 15 = .ok (.if_icmp .ge 7, 3) := by decide +kernel
theorem dX1_has_18 : decode cX1_has 18 = .ok (.iconst 1, 1) := by decide +kernel
theorem dX1_has_19 : decode cX1_has 19 = .ok (.goto 4, 3) := by decide +kernel
theorem dX1_has_22 : decode cX1_has 22 = .ok (.iconst 0, 1) := by decide +kernel
theorem dX1_has_23 : decode cX1_has 23 = .ok (.ireturn, 1) := by decide +kernel
theorem dX1_person_0 : decode cX1_person 0 = .ok (.iload_n 1, 1) := by decide +kernel
theorem dX1_person_1 : decode cX1_person 1 = .ok (.ifCond .lt 25, 3) := by decide +kernel
theorem dX1_person_4 : decode cX1_person 4 = .ok (.iload_n 1, 1) := by decide +kernel
theorem dX1_person_5 : decode cX1_person 5 = .ok (.aload_n 0, 1) := by decide +kernel
theorem dX1_person_6 : decode cX1_person 6 = .ok (.getfield 53, 3) := by decide +kernel
theorem dX1_person_9 : decode cX1_person 9 = .ok (.if_icmp .ge 17, 3) := by decide +kernel
theorem dX1_person_12 : decode cX1_person 12 = .ok (.iload_n 1, 1) := by decide +kernel
theorem dX1_person_13 : decode cX1_person 13 = .ok (.iconst 4, 1) := by decide +kernel
theorem dX1_person_14 : decode cX1_person 14 = .ok (.if_icmp .ge 12, 3) := by decide +kernel
theorem dX1_person_17 : decode cX1_person 17 = .ok (.aload_n 0, 1) := by decide +kernel
theorem dX1_person_18 : decode cX1_person 18 = .ok (.getfield 23, 3) := by decide +kernel
theorem dX1_person_21 : decode cX1_person 21 = .ok (.iload_n 1, 1) := by decide +kernel
theorem dX1_person_22 : decode cX1_person 22 = .ok (.aaload, 1) := by decide +kernel
theorem dX1_person_23 : decode cX1_person 23 = .ok (.goto 4, 3) := by decide +kernel
theorem dX1_person_26 : decode cX1_person 26 = .ok (.aconst_null, 1) := by decide +kernel
theorem dX1_person_27 : decode cX1_person 27 = .ok (.areturn, 1) := by decide +kernel
theorem dX1_hold_0 : decode cX1_hold 0 = .ok (.aload_n 0, 1) := by decide +kernel
theorem dX1_hold_1 : decode cX1_hold 1 = .ok (.aload_n 1, 1) := by decide +kernel
theorem dX1_hold_2 : decode cX1_hold 2 = .ok (.putfield 80, 3) := by decide +kernel
theorem dX1_hold_5 : decode cX1_hold 5 = .ok (.aload_n 0, 1) := by decide +kernel
theorem dX1_hold_6 : decode cX1_hold 6 = .ok (.aload_n 1, 1) := by decide +kernel
theorem dX1_hold_7 : decode cX1_hold 7 = .ok (.iconst 2, 1) := by decide +kernel
theorem dX1_hold_8 : decode cX1_hold 8 = .ok (.bipush 60, 2) := by decide +kernel
theorem dX1_hold_10 : decode cX1_hold 10 = .ok (.invokevirtual 84, 3) := by decide +kernel
theorem dX1_hold_13 : decode cX1_hold 13 = .ok (.putfield 37, 3) := by decide +kernel
theorem dX1_hold_16 : decode cX1_hold 16 = .ok (.aload_n 0, 1) := by decide +kernel
theorem dX1_hold_17 : decode cX1_hold 17 = .ok (.aload_n 1, 1) := by decide +kernel
theorem dX1_hold_18 : decode cX1_hold 18 = .ok (.iconst 3, 1) := by decide +kernel
theorem dX1_hold_19 : decode cX1_hold 19 = .ok (.bipush 30, 2) := by decide +kernel
theorem dX1_hold_21 : decode cX1_hold 21 = .ok (.invokevirtual 84, 3) := by decide +kernel
theorem dX1_hold_24 : decode cX1_hold 24 = .ok (.putfield 41, 3) := by decide +kernel
theorem dX1_hold_27 : decode cX1_hold 27 = .ok (.return_, 1) := by decide +kernel
theorem dX1_how_0 : decode cX1_how 0 = .ok (.aload_n 0, 1) := by decide +kernel
theorem dX1_how_1 : decode cX1_how 1 = .ok (.getfield 65, 3) := by decide +kernel
theorem dX1_how_4 : decode cX1_how 4 = .ok (.aload_n 0, 1) := by decide +kernel
theorem dX1_how_5 : decode cX1_how 5 = .ok (.getfield 41, 3) := by decide +kernel
theorem dX1_how_8 : decode cX1_how 8 = .ok (.if_icmp .lt 5, 3) := by decide +kernel
theorem dX1_how_11 : decode cX1_how 11 = .ok (.iconst 1, 1) := by decide +kernel
theorem dX1_how_12 : decode cX1_how 12 = .ok (.ireturn, 1) := by decide +kernel
theorem dX1_how_13 : decode cX1_how 13 = .ok (.aload_n 0, 1) := by decide +kernel
theorem dX1_how_14 : decode cX1_how 14 = .ok (.getfield 62, 3) := by decide +kernel
theorem dX1_how_17 : decode cX1_how 17 = .ok (.aload_n 0, 1) := by decide +kernel
theorem dX1_how_18 : decode cX1_how 18 = .ok (.getfield 37, 3) := by decide +kernel
theorem dX1_how_21 : decode cX1_how 21 = .ok (.if_icmp .lt 7, 3) := by decide +kernel
theorem dX1_how_24 : decode cX1_how 24 = .ok (.iconst 2, 1) := by decide +kernel
theorem dX1_how_25 : decode cX1_how 25 = .ok (.goto 4, 3) := by decide +kernel
theorem dX1_how_28 : decode cX1_how 28 = .ok (.iconst 0, 1) := by decide +kernel
theorem dX1_how_29 : decode cX1_how 29 = .ok (.ireturn, 1) := by decide +kernel
theorem dX1_moved_0 : decode cX1_moved 0 = .ok (.iload_n 3, 1) := by decide +kernel
theorem dX1_moved_1 : decode cX1_moved 1 = .ok (.ifCond .eq 7, 3) := by decide +kernel
theorem dX1_moved_4 : decode cX1_moved 4 = .ok (.iconst 4, 1) := by decide +kernel
theorem dX1_moved_5 : decode cX1_moved 5 = .ok (.goto 4, 3) := by decide +kernel
theorem dX1_moved_8 : decode cX1_moved 8 = .ok (.iconst 2, 1) := by decide +kernel
theorem dX1_moved_9 : decode cX1_moved 9 = .ok (.istore 4, 2) := by decide +kernel
theorem dX1_moved_11 : decode cX1_moved 11 = .ok (.aload_n 0, 1) := by decide +kernel
theorem dX1_moved_12 : decode cX1_moved 12 = .ok (.getfield 80, 3) := by decide +kernel
theorem dX1_moved_15 : decode cX1_moved 15 = .ok (.ifnull 15, 3) := by decide +kernel
theorem dX1_moved_18 : decode cX1_moved 18 = .ok (.aload_n 1, 1) := by decide +kernel
theorem dX1_moved_19 : decode cX1_moved 19 = .ok (.ifnull 11, 3) := by decide +kernel
theorem dX1_moved_22 : decode cX1_moved 22 = .ok (.aload_n 0, 1) := by decide +kernel
theorem dX1_moved_23 : decode cX1_moved 23 = .ok (.iload_n 2, 1) := by decide +kernel
theorem dX1_moved_24 : decode cX1_moved 24 = .ok (.invokevirtual 90, 3) := by decide +kernel
theorem dX1_moved_27 : decode cX1_moved 27 = .ok (.ifCond .ne 6, 3) := by decide +kernel
theorem dX1_moved_30 : decode cX1_moved 30 = .ok (.iload 4, 2) := by decide +kernel
theorem dX1_moved_32 : decode cX1_moved 32 = .ok (.ireturn, 1) := by decide +kernel
theorem dX1_moved_33 : decode cX1_moved 33 = .ok (.aload_n 0, 1) := by decide +kernel
theorem dX1_moved_34 : decode cX1_moved 34 = .ok (.getfield 80, 3) := by decide +kernel
theorem dX1_moved_37 : decode cX1_moved 37 = .ok (.aload_n 1, 1) := by decide +kernel
theorem dX1_moved_38 : decode cX1_moved 38 = .ok (.iload_n 2, 1) := by decide +kernel
theorem dX1_moved_39 : decode cX1_moved 39 = .ok (.aload_n 0, 1) := by decide +kernel
theorem dX1_moved_40 : decode cX1_moved 40 = .ok (.invokevirtual 94, 3) := by decide +kernel
theorem dX1_moved_43 : decode cX1_moved 43 = .ok (.aload_n 0, 1) := by decide +kernel
theorem dX1_moved_44 : decode cX1_moved 44 = .ok (.getfield 80, 3) := by decide +kernel
theorem dX1_moved_47 : decode cX1_moved 47 = .ok (.iload_n 3, 1) := by decide +kernel
theorem dX1_moved_48 : decode cX1_moved 48 = .ok (.ifCond .eq 7, 3) := by decide +kernel
theorem dX1_moved_51 : decode cX1_moved 51 = .ok (.iconst 0, 1) := by decide +kernel
theorem dX1_moved_52 : decode cX1_moved 52 = .ok (.goto 4, 3) := by decide +kernel
theorem dX1_moved_55 : decode cX1_moved 55 = .ok (.iconst 1, 1) := by decide +kernel
theorem dX1_moved_56 : decode cX1_moved 56 = .ok (.iload 4, 2) := by decide +kernel
theorem dX1_moved_58 : decode cX1_moved 58 = .ok (.invokevirtual 98, 3) := by decide +kernel
theorem dX1_moved_61 : decode cX1_moved 61 = .ok (.ireturn, 1) := by decide +kernel
theorem dX1_pass_0 : decode cX1_pass 0 = .ok (.aload_n 0, 1) := by decide +kernel
theorem dX1_pass_1 : decode cX1_pass 1 = .ok (.iload_n 2, 1) := by decide +kernel
theorem dX1_pass_2 : decode cX1_pass 2 = .ok (.invokevirtual 90, 3) := by decide +kernel
theorem dX1_pass_5 : decode cX1_pass 5 = .ok (.ifCond .ne 4, 3) := by decide +kernel
theorem dX1_pass_8 : decode cX1_pass 8 = .ok (.return_, 1) := by decide +kernel
theorem dX1_pass_9 : decode cX1_pass 9 = .ok (.aload_n 0, 1) := by decide +kernel
theorem dX1_pass_10 : decode cX1_pass 10 = .ok (.aload_n 1, 1) := by decide +kernel
theorem dX1_pass_11 : decode cX1_pass 11 = .ok (.iload_n 2, 1) := by decide +kernel
theorem dX1_pass_12 : decode cX1_pass 12 = .ok (.iload_n 3, 1) := by decide +kernel
theorem dX1_pass_13 : decode cX1_pass 13 = .ok (.invokevirtual 101, 3) := by decide +kernel
theorem dX1_pass_16 : decode cX1_pass 16 = .ok (.istore 4, 2) := by decide +kernel
theorem dX1_pass_18 : decode cX1_pass 18 = .ok (.iload_n 3, 1) := by decide +kernel
theorem dX1_pass_19 : decode cX1_pass 19 = .ok (.ifCond .eq 67, 3) := by decide +kernel
theorem dX1_pass_22 : decode cX1_pass 22 = .ok (.aload_n 0, 1) := by decide +kernel
theorem dX1_pass_23 : decode cX1_pass 23 = .ok (.dup, 1) := by decide +kernel
theorem dX1_pass_24 : decode cX1_pass 24 = .ok (.getfield 62, 3) := by decide +kernel
theorem dX1_pass_27 : decode cX1_pass 27 = .ok (.aload_n 0, 1) := by decide +kernel
theorem dX1_pass_28 : decode cX1_pass 28 = .ok (.getfield 9, 3) := by decide +kernel
theorem dX1_pass_31 : decode cX1_pass 31 = .ok (.iload_n 2, 1) := by decide +kernel
theorem dX1_pass_32 : decode cX1_pass 32 = .ok (.iaload, 1) := by decide +kernel
theorem dX1_pass_33 : decode cX1_pass 33 = .ok (.iadd, 1) := by decide +kernel
theorem dX1_pass_34 : decode cX1_pass 34 = .ok (.putfield 62, 3) := by decide +kernel
theorem dX1_pass_37 : decode cX1_pass 37 = .ok (.aload_n 0, 1) := by decide +kernel
theorem dX1_pass_38 : decode cX1_pass 38 = .ok (.dup, 1) := by decide +kernel
theorem dX1_pass_39 : decode cX1_pass 39 = .ok (.getfield 65, 3) := by decide +kernel
theorem dX1_pass_42 : decode cX1_pass 42 = .ok (.iload 4, 2) := by decide +kernel
theorem dX1_pass_44 : decode cX1_pass 44 = .ok (.iadd, 1) := by decide +kernel
theorem dX1_pass_45 : decode cX1_pass 45 = .ok (.putfield 65, 3) := by decide +kernel
theorem dX1_pass_48 : decode cX1_pass 48 = .ok (.aload_n 0, 1) := by decide +kernel
theorem dX1_pass_49 : decode cX1_pass 49 = .ok (.iconst 0, 1) := by decide +kernel
theorem dX1_pass_50 : decode cX1_pass 50 = .ok (.putfield 68, 3) := by decide +kernel
theorem dX1_pass_53 : decode cX1_pass 53 = .ok (.aload_n 0, 1) := by decide +kernel
theorem dX1_pass_54 : decode cX1_pass 54 = .ok (.dup, 1) := by decide +kernel
theorem dX1_pass_55 : decode cX1_pass 55 = .ok (.getfield 71, 3) := by decide +kernel
theorem dX1_pass_58 : decode cX1_pass 58 = .ok (.iconst 1, 1) := by decide +kernel
theorem dX1_pass_59 : decode cX1_pass 59 = .ok (.iadd, 1) := by decide +kernel
theorem dX1_pass_60 : decode cX1_pass 60 = .ok (.putfield 71, 3) := by decide +kernel
theorem dX1_pass_63 : decode cX1_pass 63 = .ok (.aload_n 0, 1) := by decide +kernel
theorem dX1_pass_64 : decode cX1_pass 64 = .ok (.getfield 18, 3) := by decide +kernel
theorem dX1_pass_67 : decode cX1_pass 67 = .ok (.iload_n 2, 1) := by decide +kernel
theorem dX1_pass_68 : decode cX1_pass 68 = .ok (.aload_n 0, 1) := by decide +kernel
theorem dX1_pass_69 : decode cX1_pass 69 = .ok (.getfield 18, 3) := by decide +kernel
theorem dX1_pass_72 : decode cX1_pass 72 = .ok (.iload_n 2, 1) := by decide +kernel
theorem dX1_pass_73 : decode cX1_pass 73 = .ok (.iaload, 1) := by decide +kernel
theorem dX1_pass_74 : decode cX1_pass 74 = .ok (.iconst 1, 1) := by decide +kernel
theorem dX1_pass_75 : decode cX1_pass 75 = .ok (.iadd, 1) := by decide +kernel
theorem dX1_pass_76 : decode cX1_pass 76 = .ok (.sipush 999, 3) := by decide +kernel
theorem dX1_pass_79 : decode cX1_pass 79 = .ok (.invokestatic 105, 3) := by decide +kernel
theorem dX1_pass_82 : decode cX1_pass 82 = .ok (.iastore, 1) := by decide +kernel
theorem dX1_pass_83 : decode cX1_pass 83 = .ok (.goto 38, 3) := by decide +kernel
theorem dX1_pass_86 : decode cX1_pass 86 = .ok (.aload_n 0, 1) := by decide +kernel
theorem dX1_pass_87 : decode cX1_pass 87 = .ok (.dup, 1) := by decide +kernel
theorem dX1_pass_88 : decode cX1_pass 88 = .ok (.getfield 62, 3) := by decide +kernel
theorem dX1_pass_91 : decode cX1_pass 91 = .ok (.iconst 1, 1) := by decide +kernel
theorem dX1_pass_92 : decode cX1_pass 92 = .ok (.iadd, 1) := by decide +kernel
theorem dX1_pass_93 : decode cX1_pass 93 = .ok (.putfield 62, 3) := by decide +kernel
theorem dX1_pass_96 : decode cX1_pass 96 = .ok (.aload_n 0, 1) := by decide +kernel
theorem dX1_pass_97 : decode cX1_pass 97 = .ok (.aload_n 0, 1) := by decide +kernel
theorem dX1_pass_98 : decode cX1_pass 98 = .ok (.getfield 65, 3) := by decide +kernel
theorem dX1_pass_101 : decode cX1_pass 101 = .ok (.iload 4, 2) := by decide +kernel
theorem dX1_pass_103 : decode cX1_pass 103 = .ok (.isub, 1) := by decide +kernel
theorem dX1_pass_104 : decode cX1_pass 104 = .ok (.iconst 0, 1) := by decide +kernel
theorem dX1_pass_105 : decode cX1_pass 105 = .ok (.invokestatic 110, 3) := by decide +kernel
theorem dX1_pass_108 : decode cX1_pass 108 = .ok (.putfield 65, 3) := by decide +kernel
theorem dX1_pass_111 : decode cX1_pass 111 = .ok (.aload_n 0, 1) := by decide +kernel
theorem dX1_pass_112 : decode cX1_pass 112 = .ok (.dup, 1) := by decide +kernel
theorem dX1_pass_113 : decode cX1_pass 113 = .ok (.getfield 68, 3) := by decide +kernel
theorem dX1_pass_116 : decode cX1_pass 116 = .ok (.iconst 1, 1) := by decide +kernel
theorem dX1_pass_117 : decode cX1_pass 117 = .ok (.iadd, 1) := by decide +kernel
theorem dX1_pass_118 : decode cX1_pass 118 = .ok (.putfield 68, 3) := by decide +kernel
theorem dX1_pass_121 : decode cX1_pass 121 = .ok (.return_, 1) := by decide +kernel
theorem dX1_sleepOver_0 : decode cX1_sleepOver 0 = .ok (.aload_n 0, 1) := by decide +kernel
theorem dX1_sleepOver_1 : decode cX1_sleepOver 1 = .ok (.iconst 0, 1) := by decide +kernel
theorem dX1_sleepOver_2 : decode cX1_sleepOver 2 = .ok (.putfield 62, 3) := by decide +kernel
theorem dX1_sleepOver_5 : decode cX1_sleepOver 5 = .ok (.aload_n 0, 1) := by decide +kernel
theorem dX1_sleepOver_6 : decode cX1_sleepOver 6 = .ok (.iconst 0, 1) := by decide +kernel
theorem dX1_sleepOver_7 : decode cX1_sleepOver 7 = .ok (.putfield 65, 3) := by decide +kernel
theorem dX1_sleepOver_10 : decode cX1_sleepOver 10 = .ok (.aload_n 0, 1) := by decide +kernel
theorem dX1_sleepOver_11 : decode cX1_sleepOver 11 = .ok (.iconst 0, 1) := by decide +kernel
theorem dX1_sleepOver_12 : decode cX1_sleepOver 12 = .ok (.putfield 68, 3) := by decide +kernel
theorem dX1_sleepOver_15 : decode cX1_sleepOver 15 = .ok (.aload_n 0, 1) := by decide +kernel
theorem dX1_sleepOver_16 : decode cX1_sleepOver 16 = .ok (.iconst 0, 1) := by decide +kernel
theorem dX1_sleepOver_17 : decode cX1_sleepOver 17 = .ok (.putfield 71, 3) := by decide +kernel
theorem dX1_sleepOver_20 : decode cX1_sleepOver 20 = .ok (.aload_n 0, 1) := by decide +kernel
theorem dX1_sleepOver_21 : decode cX1_sleepOver 21 = .ok (.iconst 0, 1) := by decide +kernel
theorem dX1_sleepOver_22 : decode cX1_sleepOver 22 = .ok (.putfield 74, 3) := by decide +kernel
theorem dX1_sleepOver_25 : decode cX1_sleepOver 25 = .ok (.aload_n 0, 1) := by decide +kernel
theorem dX1_sleepOver_26 : decode cX1_sleepOver 26 = .ok (.dup, 1) := by decide +kernel
theorem dX1_sleepOver_27 : decode cX1_sleepOver 27 = .ok (.getfield 77, 3) := by decide +kernel
theorem dX1_sleepOver_30 : decode cX1_sleepOver 30 = .ok (.iconst 1, 1) := by decide +kernel
theorem dX1_sleepOver_31 : decode cX1_sleepOver 31 = .ok (.iadd, 1) := by decide +kernel
theorem dX1_sleepOver_32 : decode cX1_sleepOver 32 = .ok (.putfield 77, 3) := by decide +kernel
theorem dX1_sleepOver_35 : decode cX1_sleepOver 35 = .ok (.return_, 1) := by decide +kernel
theorem dX1_habits_0 : decode cX1_habits 0 = .ok (.iconst 0, 1) := by decide +kernel
theorem dX1_habits_1 : decode cX1_habits 1 = .ok (.istore_n 1, 1) := by decide +kernel
theorem dX1_habits_2 : decode cX1_habits 2 = .ok (.iconst 0, 1) := by decide +kernel
theorem dX1_habits_3 : decode cX1_habits 3 = .ok (.istore_n 2, 1) := by decide +kernel
theorem dX1_habits_4 : decode cX1_habits 4 = .ok (.iload_n 2, 1) := by decide +kernel
theorem dX1_habits_5 : decode cX1_habits 5 = .ok (.aload_n 0, 1) := by decide +kernel
theorem dX1_habits_6 : decode cX1_habits 6 = .ok (.getfield 50, 3) := by decide +kernel
theorem dX1_habits_9 : decode cX1_habits 9 = .ok (.if_icmp .ge 24, 3) := by decide +kernel
theorem dX1_habits_12 : decode cX1_habits 12 = .ok (.iload_n 2, 1) := by decide +kernel
theorem dX1_habits_13 : decode cX1_habits 13 = .ok (.bipush 7, 2) := by decide +kernel
theorem dX1_habits_15 : decode cX1_habits 15 = .ok (.if_icmp .ge 18, 3) := by decide +kernel
theorem dX1_habits_18 : decode cX1_habits 18 = .ok (.iload_n 1, 1) := by decide +kernel
theorem dX1_habits_19 : decode cX1_habits 19 = .ok (.aload_n 0, 1) := by decide +kernel
theorem dX1_habits_20 : decode cX1_habits 20 = .ok (.getfield 18, 3) := by decide +kernel
theorem dX1_habits_23 : decode cX1_habits 23 = .ok (.iload_n 2, 1) := by decide +kernel
theorem dX1_habits_24 : decode cX1_habits 24 = .ok (.iaload, 1) := by decide +kernel
theorem dX1_habits_25 : decode cX1_habits 25 = .ok (.iadd, 1) := by decide +kernel
theorem dX1_habits_26 : decode cX1_habits 26 = .ok (.istore_n 1, 1) := by decide +kernel
theorem dX1_habits_27 : decode cX1_habits 27 = .ok (.iinc 2 1, 3) := by decide +kernel
theorem dX1_habits_30 : decode cX1_habits 30 = .ok (.goto (-26), 3) := by decide +kernel
theorem dX1_habits_33 : decode cX1_habits 33 = .ok (.iload_n 1, 1) := by decide +kernel
theorem dX1_habits_34 : decode cX1_habits 34 = .ok (.ireturn, 1) := by decide +kernel
theorem dX2_init_0 : decode cX2_init 0 = .ok (.aload_n 0, 1) := by decide +kernel
theorem dX2_init_1 : decode cX2_init 1 = .ok (.invokespecial 3, 3) := by decide +kernel
theorem dX2_init_4 : decode cX2_init 4 = .ok (.aload_n 0, 1) := by decide +kernel
theorem dX2_init_5 : decode cX2_init 5 = .ok (.ldc 9, 2) := by decide +kernel
theorem dX2_init_7 : decode cX2_init 7 = .ok (.invokevirtual 11, 3) := by decide +kernel
theorem dX2_init_10 : decode cX2_init 10 = .ok (.newarray .int, 2) := by decide +kernel
theorem dX2_init_12 : decode cX2_init 12 = .ok (.putfield 17, 3) := by decide +kernel
theorem dX2_init_15 : decode cX2_init 15 = .ok (.iconst 0, 1) := by decide +kernel
theorem dX2_init_16 : decode cX2_init 16 = .ok (.aload_n 1, 1) := by decide +kernel
theorem dX2_init_17 : decode cX2_init 17 = .ok (.getfield 23, 3) := by decide +kernel
theorem dX2_init_20 : decode cX2_init 20 = .ok (.bipush 10, 2) := by decide +kernel
theorem dX2_init_22 : decode cX2_init 22 = .ok (.invokestatic 29, 3) := by decide +kernel
theorem dX2_init_25 : decode cX2_init 25 = .ok (.invokestatic 35, 3) := by decide +kernel
theorem dX2_init_28 : decode cX2_init 28 = .ok (.istore_n 2, 1) := by decide +kernel
theorem dX2_init_29 : decode cX2_init 29 = .ok (.iconst 0, 1) := by decide +kernel
theorem dX2_init_30 : decode cX2_init 30 = .ok (.aload_n 1, 1) := by decide +kernel
theorem dX2_init_31 : decode cX2_init 31 = .ok (.getfield 38, 3) := by decide +kernel
theorem dX2_init_34 : decode cX2_init 34 = .ok (.bipush 100, 2) := by decide +kernel
theorem dX2_init_36 : decode cX2_init 36 = .ok (.invokestatic 29, 3) := by decide +kernel
theorem dX2_init_39 : decode cX2_init 39 = .ok (.invokestatic 35, 3) := by decide +kernel
theorem dX2_init_42 : decode cX2_init 42 = .ok (.istore_n 3, 1) := by decide +kernel
theorem dX2_init_43 : decode cX2_init 43 = .ok (.aload_n 0, 1) := by decide +kernel
theorem dX2_init_44 : decode cX2_init 44 = .ok (.iload_n 2, 1) := by decide +kernel
theorem dX2_init_45 : decode cX2_init 45 = .ok (.newarray .int, 2) := by decide +kernel
theorem dX2_init_47 : decode cX2_init 47 = .ok (.putfield 41, 3) := by decide +kernel
theorem dX2_init_50 : decode cX2_init 50 = .ok (.aload_n 0, 1) := by decide +kernel
theorem dX2_init_51 : decode cX2_init 51 = .ok (.iload_n 2, 1) := by decide +kernel
theorem dX2_init_52 : decode cX2_init 52 = .ok (.newarray .int, 2) := by decide +kernel
theorem dX2_init_54 : decode cX2_init 54 = .ok (.putfield 44, 3) := by decide +kernel
theorem dX2_init_57 : decode cX2_init 57 = .ok (.aload_n 0, 1) := by decide +kernel
theorem dX2_init_58 : decode cX2_init 58 = .ok (.iload_n 2, 1) := by decide +kernel
theorem dX2_init_59 : decode cX2_init 59 = .ok (.newarray .int, 2) := by decide +kernel
theorem dX2_init_61 : decode cX2_init 61 = .ok (.putfield 47, 3) := by decide +kernel
theorem dX2_init_64 : decode cX2_init 64 = .ok (.aload_n 0, 1) := by decide +kernel
theorem dX2_init_65 : decode cX2_init 65 = .ok (.iload_n 3, 1) := by decide +kernel
theorem dX2_init_66 : decode cX2_init 66 = .ok (.newarray .int, 2) := by decide +kernel
theorem dX2_init_68 : decode cX2_init 68 = .ok (.putfield 50, 3) := by decide +kernel
theorem dX2_init_71 : decode cX2_init 71 = .ok (.aload_n 1, 1) := by decide +kernel
theorem dX2_init_72 : decode cX2_init 72 = .ok (.getfield 53, 3) := by decide +kernel
theorem dX2_init_75 : decode cX2_init 75 = .ok (.iconst 0, 1) := by decide +kernel
theorem dX2_init_76 : decode cX2_init 76 = .ok (.aload_n 0, 1) := by decide +kernel
theorem dX2_init_77 : decode cX2_init 77 = .ok (.getfield 41, 3) := by decide +kernel
theorem dX2_init_80 : decode cX2_init 80 = .ok (.iconst 0, 1) := by decide +kernel
theorem dX2_init_81 : decode cX2_init 81 = .ok (.iload_n 2, 1) := by decide +kernel
theorem dX2_init_82 : decode cX2_init 82 = .ok (.invokestatic 54, 3) := by decide +kernel
theorem dX2_init_85 : decode cX2_init 85 = .ok (.aload_n 1, 1) := by decide +kernel
theorem dX2_init_86 : decode cX2_init 86 = .ok (.getfield 60, 3) := by decide +kernel
theorem dX2_init_89 : decode cX2_init 89 = .ok (.iconst 0, 1) := by decide +kernel
theorem dX2_init_90 : decode cX2_init 90 = .ok (.aload_n 0, 1) := by decide +kernel
theorem dX2_init_91 : decode cX2_init 91 = .ok (.getfield 44, 3) := by decide +kernel
theorem dX2_init_94 : decode cX2_init 94 = .ok (.iconst 0, 1) := by decide +kernel
theorem dX2_init_95 : decode cX2_init 95 = .ok (.iload_n 2, 1) := by decide +kernel
theorem dX2_init_96 : decode cX2_init 96 = .ok (.invokestatic 54, 3) := by decide +kernel
theorem dX2_init_99 : decode cX2_init 99 = .ok (.aload_n 1, 1) := by decide +kernel
theorem dX2_init_100 : decode cX2_init 100 = .ok (.getfield 61, 3) := by decide +kernel
theorem dX2_init_103 : decode cX2_init 103 = .ok (.iconst 0, 1) := by decide +kernel
theorem dX2_init_104 : decode cX2_init 104 = .ok (.aload_n 0, 1) := by decide +kernel
theorem dX2_init_105 : decode cX2_init 105 = .ok (.getfield 47, 3) := by decide +kernel
theorem dX2_init_108 : decode cX2_init 108 = .ok (.iconst 0, 1) := by decide +kernel
theorem dX2_init_109 : decode cX2_init 109 = .ok (.iload_n 2, 1) := by decide +kernel
theorem dX2_init_110 : decode cX2_init 110 = .ok (.invokestatic 54, 3) := by decide +kernel
theorem dX2_init_113 : decode cX2_init 113 = .ok (.aload_n 1, 1) := by decide +kernel
theorem dX2_init_114 : decode cX2_init 114 = .ok (.getfield 62, 3) := by decide +kernel
theorem dX2_init_117 : decode cX2_init 117 = .ok (.iconst 0, 1) := by decide +kernel
theorem dX2_init_118 : decode cX2_init 118 = .ok (.aload_n 0, 1) := by decide +kernel
theorem dX2_init_119 : decode cX2_init 119 = .ok (.getfield 50, 3) := by decide +kernel
theorem dX2_init_122 : decode cX2_init 122 = .ok (.iconst 0, 1) := by decide +kernel
theorem dX2_init_123 : decode cX2_init 123 = .ok (.iload_n 3, 1) := by decide +kernel
theorem dX2_init_124 : decode cX2_init 124 = .ok (.invokestatic 54, 3) := by decide +kernel
theorem dX2_init_127 : decode cX2_init 127 = .ok (.return_, 1) := by decide +kernel
theorem dX2_last_0 : decode cX2_last 0 = .ok (.iload_n 2, 1) := by decide +kernel
theorem dX2_last_1 : decode cX2_last 1 = .ok (.istore_n 3, 1) := by decide +kernel
theorem dX2_last_2 : decode cX2_last 2 = .ok (.iconst 0, 1) := by decide +kernel
theorem dX2_last_3 : decode cX2_last 3 = .ok (.istore 4, 2) := by decide +kernel
theorem dX2_last_5 : decode cX2_last 5 = .ok (.iload 4, 2) := by decide +kernel
theorem dX2_last_7 : decode cX2_last 7 = .ok (.aload_n 0, 1) := by decide +kernel
theorem dX2_last_8 : decode cX2_last 8 = .ok (.getfield 41, 3) := by decide +kernel
theorem dX2_last_11 : decode cX2_last 11 = .ok (.arraylength, 1) := by decide +kernel
theorem dX2_last_12 : decode cX2_last 12 = .ok (.if_icmp .ge 28, 3) := by decide +kernel
theorem dX2_last_15 : decode cX2_last 15 = .ok (.aload_n 0, 1) := by decide +kernel
theorem dX2_last_16 : decode cX2_last 16 = .ok (.getfield 41, 3) := by decide +kernel
theorem dX2_last_19 : decode cX2_last 19 = .ok (.iload 4, 2) := by decide +kernel
theorem dX2_last_21 : decode cX2_last 21 = .ok (.iaload, 1) := by decide +kernel
theorem dX2_last_22 : decode cX2_last 22 = .ok (.iload_n 1, 1) := by decide +kernel
theorem dX2_last_23 : decode cX2_last 23 = .ok (.if_icmp .ne 11, 3) := by decide +kernel
theorem dX2_last_26 : decode cX2_last 26 = .ok (.aload_n 0, 1) := by decide +kernel
theorem dX2_last_27 : decode cX2_last 27 = .ok (.getfield 44, 3) := by decide +kernel
theorem dX2_last_30 : decode cX2_last 30 = .ok (.iload 4, 2) := by decide +kernel
theorem dX2_last_32 : decode cX2_last 32 = .ok (.iaload, 1) := by decide +kernel
theorem dX2_last_33 : decode cX2_last 33 = .ok (.istore_n 3, 1) := by decide +kernel
theorem dX2_last_34 : decode cX2_last 34 = .ok (.iinc 4 1, 3) := by decide +kernel
theorem dX2_last_37 : decode cX2_last 37 = .ok (.goto (-32), 3) := by decide +kernel
theorem dX2_last_40 : decode cX2_last 40 = .ok (.iload_n 3, 1) := by decide +kernel
theorem dX2_last_41 : decode cX2_last 41 = .ok (.ireturn, 1) := by decide +kernel
theorem dX2_look_0 : decode cX2_look 0 = .ok (.aload_n 0, 1) := by decide +kernel
theorem dX2_look_1 : decode cX2_look 1 = .ok (.getfield 17, 3) := by decide +kernel
theorem dX2_look_4 : decode cX2_look 4 = .ok (.iconst 0, 1) := by decide +kernel
theorem dX2_look_5 : decode cX2_look 5 = .ok (.aload_n 1, 1) := by decide +kernel
theorem dX2_look_6 : decode cX2_look 6 = .ok (.getfield 63, 3) := by decide +kernel
theorem dX2_look_9 : decode cX2_look 9 = .ok (.iastore, 1) := by decide +kernel
theorem dX2_look_10 : decode cX2_look 10 = .ok (.aload_n 0, 1) := by decide +kernel
theorem dX2_look_11 : decode cX2_look 11 = .ok (.getfield 17, 3) := by decide +kernel
theorem dX2_look_14 : decode cX2_look 14 = .ok (.iconst 1, 1) := by decide +kernel
theorem dX2_look_15 : decode cX2_look 15 = .ok (.aload_n 1, 1) := by decide +kernel
theorem dX2_look_16 : decode cX2_look 16 = .ok (.getfield 68, 3) := by decide +kernel
theorem dX2_look_19 : decode cX2_look 19 = .ok (.iastore, 1) := by decide +kernel
theorem dX2_look_20 : decode cX2_look 20 = .ok (.aload_n 0, 1) := by decide +kernel
theorem dX2_look_21 : decode cX2_look 21 = .ok (.getfield 17, 3) := by decide +kernel
theorem dX2_look_24 : decode cX2_look 24 = .ok (.iconst 2, 1) := by decide +kernel
theorem dX2_look_25 : decode cX2_look 25 = .ok (.iload_n 2, 1) := by decide +kernel
theorem dX2_look_26 : decode cX2_look 26 = .ok (.iastore, 1) := by decide +kernel
theorem dX2_look_27 : decode cX2_look 27 = .ok (.aload_n 0, 1) := by decide +kernel
theorem dX2_look_28 : decode cX2_look 28 = .ok (.getfield 17, 3) := by decide +kernel
theorem dX2_look_31 : decode cX2_look 31 = .ok (.iconst 3, 1) := by decide +kernel
theorem dX2_look_32 : decode cX2_look 32 = .ok (.aload_n 3, 1) := by decide +kernel
theorem dX2_look_33 : decode cX2_look 33 = .ok (.getfield 71, 3) := by decide +kernel
theorem dX2_look_36 : decode cX2_look 36 = .ok (.bipush 10, 2) := by decide +kernel
theorem dX2_look_38 : decode cX2_look 38 = .ok (.idiv, 1) := by decide +kernel
theorem dX2_look_39 : decode cX2_look 39 = .ok (.iastore, 1) := by decide +kernel
theorem dX2_look_40 : decode cX2_look 40 = .ok (.aload_n 0, 1) := by decide +kernel
theorem dX2_look_41 : decode cX2_look 41 = .ok (.getfield 17, 3) := by decide +kernel
theorem dX2_look_44 : decode cX2_look 44 = .ok (.iconst 4, 1) := by decide +kernel
theorem dX2_look_45 : decode cX2_look 45 = .ok (.aload_n 3, 1) := by decide +kernel
theorem dX2_look_46 : decode cX2_look 46 = .ok (.getfield 76, 3) := by decide +kernel
theorem dX2_look_49 : decode cX2_look 49 = .ok (.iastore, 1) := by decide +kernel
theorem dX2_look_50 : decode cX2_look 50 = .ok (.aload_n 0, 1) := by decide +kernel
theorem dX2_look_51 : decode cX2_look 51 = .ok (.getfield 17, 3) := by decide +kernel
theorem dX2_look_54 : decode cX2_look 54 = .ok (.iconst 5, 1) := by decide +kernel
theorem dX2_look_55 : decode cX2_look 55 = .ok (.aload_n 3, 1) := by decide +kernel
theorem dX2_look_56 : decode cX2_look 56 = .ok (.iload_n 2, 1) := by decide +kernel
theorem dX2_look_57 : decode cX2_look 57 = .ok (.invokevirtual 79, 3) := by decide +kernel
theorem dX2_look_60 : decode cX2_look 60 = .ok (.ifCond .eq 15, 3) := by decide +kernel
theorem dX2_look_63 : decode cX2_look 63 = .ok (.aload_n 3, 1) := by decide +kernel
theorem dX2_look_64 : decode cX2_look 64 = .ok (.getfield 83, 3) := by decide +kernel
theorem dX2_look_67 : decode cX2_look 67 = .ok (.iload_n 2, 1) := by decide +kernel
theorem dX2_look_68 : decode cX2_look 68 = .ok (.iaload, 1) := by decide +kernel
theorem dX2_look_69 : decode cX2_look 69 = .ok (.bipush 100, 2) := by decide +kernel
theorem dX2_look_71 : decode cX2_look 71 = .ok (.irem, 1) := by decide +kernel
theorem dX2_look_72 : decode cX2_look 72 = .ok (.goto 4, 3) := by decide +kernel
theorem dX2_look_75 : decode cX2_look 75 = .ok (.iconst 0, 1) := by decide +kernel
theorem dX2_look_76 : decode cX2_look 76 = .ok (.iastore, 1) := by decide +kernel
theorem dX2_look_77 : decode cX2_look 77 = .ok (.return_, 1) := by decide +kernel
theorem dX2_sum_0 : decode cX2_sum 0 = .ok (.iconst 0, 1) := by decide +kernel
theorem dX2_sum_1 : decode cX2_sum 1 = .ok (.istore_n 3, 1) := by decide +kernel
theorem dX2_sum_2 : decode cX2_sum 2 = .ok (.iconst 0, 1) := by decide +kernel
theorem dX2_sum_3 : decode cX2_sum 3 = .ok (.istore 4, 2) := by decide +kernel
theorem dX2_sum_5 : decode cX2_sum 5 = .ok (.iconst 0, 1) := by decide +kernel
theorem dX2_sum_6 : decode cX2_sum 6 = .ok (.istore 5, 2) := by decide +kernel
theorem dX2_sum_8 : decode cX2_sum 8 = .ok (.iconst 0, 1) := by decide +kernel
theorem dX2_sum_9 : decode cX2_sum 9 = .ok (.istore 6, 2) := by decide +kernel
theorem dX2_sum_11 : decode cX2_sum 11 = .ok (.iload 6, 2) := by decide +kernel
theorem dX2_sum_13 : decode cX2_sum 13 = .ok (.aload_n 0, 1) := by decide +kernel
theorem dX2_sum_14 : decode cX2_sum 14 = .ok (.getfield 41, 3) := by decide +kernel
theorem dX2_sum_17 : decode cX2_sum 17 = .ok (.arraylength, 1) := by decide +kernel
theorem dX2_sum_18 : decode cX2_sum 18 = .ok (.if_icmp .ge 59, 3) := by decide +kernel
theorem dX2_sum_21 : decode cX2_sum 21 = .ok (.aload_n 0, 1) := by decide +kernel
theorem dX2_sum_22 : decode cX2_sum 22 = .ok (.getfield 41, 3) := by decide +kernel
theorem dX2_sum_25 : decode cX2_sum 25 = .ok (.iload 6, 2) := by decide +kernel
theorem dX2_sum_27 : decode cX2_sum 27 = .ok (.iaload, 1) := by decide +kernel
theorem dX2_sum_28 : decode cX2_sum 28 = .ok (.iload_n 1, 1) := by decide +kernel
theorem dX2_sum_29 : decode cX2_sum 29 = .ok (.if_icmp .ne 33, 3) := by decide +kernel
theorem dX2_sum_32 : decode cX2_sum 32 = .ok (.iconst 1, 1) := by decide +kernel
theorem dX2_sum_33 : decode cX2_sum 33 = .ok (.istore_n 3, 1) := by decide +kernel
theorem dX2_sum_34 : decode cX2_sum 34 = .ok (.aload_n 0, 1) := by decide +kernel
theorem dX2_sum_35 : decode cX2_sum 35 = .ok (.iload 5, 2) := by decide +kernel
theorem dX2_sum_37 : decode cX2_sum 37 = .ok (.aload_n 0, 1) := by decide +kernel
theorem dX2_sum_38 : decode cX2_sum 38 = .ok (.getfield 47, 3) := by decide +kernel
theorem dX2_sum_41 : decode cX2_sum 41 = .ok (.iload 6, 2) := by decide +kernel
theorem dX2_sum_43 : decode cX2_sum 43 = .ok (.iaload, 1) := by decide +kernel
theorem dX2_sum_44 : decode cX2_sum 44 = .ok (.invokevirtual 86, 3) := by decide +kernel
theorem dX2_sum_47 : decode cX2_sum 47 = .ok (.ifCond .eq 15, 3) := by decide +kernel
theorem dX2_sum_50 : decode cX2_sum 50 = .ok (.iload 4, 2) := by decide +kernel
theorem dX2_sum_52 : decode cX2_sum 52 = .ok (.aload_n 0, 1) := by decide +kernel
theorem dX2_sum_53 : decode cX2_sum 53 = .ok (.getfield 44, 3) := by decide +kernel
theorem dX2_sum_56 : decode cX2_sum 56 = .ok (.iload 6, 2) := by decide +kernel
theorem dX2_sum_58 : decode cX2_sum 58 = .ok (.iaload, 1) := by decide +kernel
theorem dX2_sum_59 : decode cX2_sum 59 = .ok (.iadd, 1) := by decide +kernel
theorem dX2_sum_60 : decode cX2_sum 60 = .ok (.istore 4, 2) := by decide +kernel
theorem dX2_sum_62 : decode cX2_sum 62 = .ok (.aload_n 0, 1) := by decide +kernel
theorem dX2_sum_63 : decode cX2_sum 63 = .ok (.getfield 47, 3) := by decide +kernel
theorem dX2_sum_66 : decode cX2_sum 66 = .ok (.iload 6, 2) := by decide +kernel
theorem dX2_sum_68 : decode cX2_sum 68 = .ok (.iaload, 1) := by decide +kernel
theorem dX2_sum_69 : decode cX2_sum 69 = .ok (.istore 5, 2) := by decide +kernel
theorem dX2_sum_71 : decode cX2_sum 71 = .ok (.iinc 6 1, 3) := by decide +kernel
theorem dX2_sum_74 : decode cX2_sum 74 = .ok (.goto (-63), 3) := by decide +kernel
theorem dX2_sum_77 : decode cX2_sum 77 = .ok (.iload_n 3, 1) := by decide +kernel
theorem dX2_sum_78 : decode cX2_sum 78 = .ok (.ifCond .eq 8, 3) := by decide +kernel
theorem dX2_sum_81 : decode cX2_sum 81 = .ok (.iload 4, 2) := by decide +kernel
theorem dX2_sum_83 : decode cX2_sum 83 = .ok (.goto 4, 3) := by decide +kernel
theorem dX2_sum_86 : decode cX2_sum 86 = .ok (.iload_n 2, 1) := by decide +kernel
theorem dX2_sum_87 : decode cX2_sum 87 = .ok (.ireturn, 1) := by decide +kernel
theorem dX2_holds_0 : decode cX2_holds 0 = .ok (.iconst 0, 1) := by decide +kernel
theorem dX2_holds_1 : decode cX2_holds 1 = .ok (.istore_n 3, 1) := by decide +kernel
theorem dX2_holds_2 : decode cX2_holds 2 = .ok (.iload_n 1, 1) := by decide +kernel
theorem dX2_holds_3 : decode cX2_holds 3 = .ok (.istore 4, 2) := by decide +kernel
theorem dX2_holds_5 : decode cX2_holds 5 = .ok (.iload 4, 2) := by decide +kernel
theorem dX2_holds_7 : decode cX2_holds 7 = .ok (.ifCond .lt 196, 3) := by decide +kernel
theorem dX2_holds_10 : decode cX2_holds 10 = .ok (.iload 4, 2) := by decide +kernel
theorem dX2_holds_12 : decode cX2_holds 12 = .ok (.iload_n 2, 1) := by decide +kernel
theorem dX2_holds_13 : decode cX2_holds 13 = .ok (.if_icmp .ge 190, 3) := by decide +kernel
theorem dX2_holds_16 : decode cX2_holds 16 = .ok (.iload 4, 2) := by decide +kernel
theorem dX2_holds_18 : decode cX2_holds 18 = .ok (.aload_n 0, 1) := by decide +kernel
theorem dX2_holds_19 : decode cX2_holds 19 = .ok (.getfield 50, 3) := by decide +kernel
theorem dX2_holds_22 : decode cX2_holds 22 = .ok (.arraylength, 1) := by decide +kernel
theorem dX2_holds_23 : decode cX2_holds 23 = .ok (.if_icmp .ge 180, 3) := by decide +kernel
theorem dX2_holds_26 : decode cX2_holds 26 = .ok (.aload_n 0, 1) := by decide +kernel
theorem dX2_holds_27 : decode cX2_holds 27 = .ok (.getfield 50, 3) := by decide +kernel
theorem dX2_holds_30 : decode cX2_holds 30 = .ok (.iload 4, 2) := by decide +kernel
theorem dX2_holds_32 : decode cX2_holds 32 = .ok (.iaload, 1) := by decide +kernel
theorem dX2_holds_33 : decode cX2_holds 33 = .ok (.istore 5, 2) := by decide +kernel
theorem dX2_holds_35 : decode cX2_holds 35 = .ok (.iload_n 3, 1) := by decide +kernel
theorem dX2_holds_36 : decode cX2_holds 36 = .ok (.iconst 1, 1) := by decide +kernel
theorem dX2_holds_37 : decode cX2_holds 37 = .ok (.iand, 1) := by decide +kernel
theorem dX2_holds_38 : decode cX2_holds 38 = .ok (.istore 6, 2) := by decide +kernel
theorem dX2_holds_40 : decode cX2_holds 40 = .ok (.iload_n 3, 1) := by decide +kernel
theorem dX2_holds_41 : decode cX2_holds 41 = .ok (.iconst 1, 1) := by decide +kernel
theorem dX2_holds_42 : decode cX2_holds 42 = .ok (.iushr, 1) := by decide +kernel
theorem dX2_holds_43 : decode cX2_holds 43 = .ok (.istore 7, 2) := by decide +kernel
theorem dX2_holds_45 : decode cX2_holds 45 = .ok (.iload 5, 2) := by decide +kernel
theorem dX2_holds_47 : decode cX2_holds 47 = .ok (.iconst 3, 1) := by decide +kernel
theorem dX2_holds_48 : decode cX2_holds 48 = .ok (.iand, 1) := by decide +kernel
theorem dX2_holds_49 : decode cX2_holds 49 = .ok (.tableswitch 63 1 3 #[27, 34, 54], 27) := by decide +kernel
theorem dX2_holds_76 : decode cX2_holds 76 = .ok (.iload_n 3, 1) := by decide +kernel
theorem dX2_holds_77 : decode cX2_holds 77 = .ok (.iconst 1, 1) := by decide +kernel
theorem dX2_holds_78 : decode cX2_holds 78 = .ok (.ixor, 1) := by decide +kernel
theorem dX2_holds_79 : decode cX2_holds 79 = .ok (.istore_n 3, 1) := by decide +kernel
theorem dX2_holds_80 : decode cX2_holds 80 = .ok (.goto 117, 3) := by decide +kernel
theorem dX2_holds_83 : decode cX2_holds 83 = .ok (.iload 6, 2) := by decide +kernel
theorem dX2_holds_85 : decode cX2_holds 85 = .ok (.iconst 1, 1) := by decide +kernel
theorem dX2_holds_86 : decode cX2_holds 86 = .ok (.if_icmp .ne 8, 3) := by decide +kernel
theorem dX2_holds_89 : decode cX2_holds 89 = .ok (.iload 7, 2) := by decide +kernel
theorem dX2_holds_91 : decode cX2_holds 91 = .ok (.goto 8, 3) := by decide +kernel
theorem dX2_holds_94 : decode cX2_holds 94 = .ok (.iload 7, 2) := by decide +kernel
theorem dX2_holds_96 : decode cX2_holds 96 = .ok (.bipush (-2), 2) := by decide +kernel
theorem dX2_holds_98 : decode cX2_holds 98 = .ok (.iand, 1) := by decide +kernel
theorem dX2_holds_99 : decode cX2_holds 99 = .ok (.istore_n 3, 1) := by decide +kernel
theorem dX2_holds_100 : decode cX2_holds 100 = .ok (.goto 97, 3) := by decide +kernel
theorem dX2_holds_103 : decode cX2_holds 103 = .ok (.iload 7, 2) := by decide +kernel
theorem dX2_holds_105 : decode cX2_holds 105 = .ok (.iload 6, 2) := by decide +kernel
theorem dX2_holds_107 : decode cX2_holds 107 = .ok (.ior, 1) := by decide +kernel
theorem dX2_holds_108 : decode cX2_holds 108 = .ok (.istore_n 3, 1) := by decide +kernel
theorem dX2_holds_109 : decode cX2_holds 109 = .ok (.goto 88, 3) := by decide +kernel
theorem dX2_holds_112 : decode cX2_holds 112 = .ok (.iload 5, 2) := by decide +kernel
theorem dX2_holds_114 : decode cX2_holds 114 = .ok (.iconst 2, 1) := by decide +kernel
theorem dX2_holds_115 : decode cX2_holds 115 = .ok (.ishr, 1) := by decide +kernel
theorem dX2_holds_116 : decode cX2_holds 116 = .ok (.bipush 7, 2) := by decide +kernel
theorem dX2_holds_118 : decode cX2_holds 118 = .ok (.iand, 1) := by decide +kernel
theorem dX2_holds_119 : decode cX2_holds 119 = .ok (.istore 8, 2) := by decide +kernel
theorem dX2_holds_121 : decode cX2_holds 121 = .ok (.iload 5, 2) := by decide +kernel
theorem dX2_holds_123 : decode cX2_holds 123 = .ok (.bipush 7, 2) := by decide +kernel
theorem dX2_holds_125 : decode cX2_holds 125 = .ok (.ishr, 1) := by decide +kernel
theorem dX2_holds_126 : decode cX2_holds 126 = .ok (.istore 9, 2) := by decide +kernel
theorem dX2_holds_128 : decode cX2_holds 128 = .ok (.iload 8, 2) := by decide +kernel
theorem dX2_holds_130 : decode cX2_holds 130 = .ok (.aload_n 0, 1) := by decide +kernel
theorem dX2_holds_131 : decode cX2_holds 131 = .ok (.getfield 17, 3) := by decide +kernel
theorem dX2_holds_134 : decode cX2_holds 134 = .ok (.arraylength, 1) := by decide +kernel
theorem dX2_holds_135 : decode cX2_holds 135 = .ok (.if_icmp .ge 13, 3) := by decide +kernel
theorem dX2_holds_138 : decode cX2_holds 138 = .ok (.aload_n 0, 1) := by decide +kernel
theorem dX2_holds_139 : decode cX2_holds 139 = .ok (.getfield 17, 3) := by decide +kernel
theorem dX2_holds_142 : decode cX2_holds 142 = .ok (.iload 8, 2) := by decide +kernel
theorem dX2_holds_144 : decode cX2_holds 144 = .ok (.iaload, 1) := by decide +kernel
theorem dX2_holds_145 : decode cX2_holds 145 = .ok (.goto 4, 3) := by decide +kernel
theorem dX2_holds_148 : decode cX2_holds 148 = .ok (.iconst 0, 1) := by decide +kernel
theorem dX2_holds_149 : decode cX2_holds 149 = .ok (.istore 10, 2) := by decide +kernel
theorem dX2_holds_151 : decode cX2_holds 151 = .ok (.iload 10, 2) := by decide +kernel
theorem dX2_holds_153 : decode cX2_holds 153 = .ok (.iload 9, 2) := by decide +kernel
theorem dX2_holds_155 : decode cX2_holds 155 = .ok (.if_icmp .ge 7, 3) := by decide +kernel
theorem dX2_holds_158 : decode cX2_holds 158 = .ok (.iconst 0, 1) := by decide +kernel
theorem dX2_holds_159 : decode cX2_holds 159 = .ok (.goto 15, 3) := by decide +kernel
theorem dX2_holds_162 : decode cX2_holds 162 = .ok (.iload 10, 2) := by decide +kernel
theorem dX2_holds_164 : decode cX2_holds 164 = .ok (.iload 9, 2) := by decide +kernel
theorem dX2_holds_166 : decode cX2_holds 166 = .ok (.if_icmp .ne 7, 3) := by decide +kernel
theorem dX2_holds_169 : decode cX2_holds 169 = .ok (.iconst 1, 1) := by decide +kernel
theorem dX2_holds_170 : decode cX2_holds 170 = .ok (.goto 4, 3) := by decide +kernel
theorem dX2_holds_173 : decode cX2_holds 173 = .ok (.iconst 2, 1) := by decide +kernel
theorem dX2_holds_174 : decode cX2_holds 174 = .ok (.istore 11, 2) := by decide +kernel
theorem dX2_holds_176 : decode cX2_holds 176 = .ok (.iload_n 3, 1) := by decide +kernel
theorem dX2_holds_177 : decode cX2_holds 177 = .ok (.iconst 1, 1) := by decide +kernel
theorem dX2_holds_178 : decode cX2_holds 178 = .ok (.ishl, 1) := by decide +kernel
theorem dX2_holds_179 : decode cX2_holds 179 = .ok (.iload 11, 2) := by decide +kernel
theorem dX2_holds_181 : decode cX2_holds 181 = .ok (.iload 5, 2) := by decide +kernel
theorem dX2_holds_183 : decode cX2_holds 183 = .ok (.iconst 5, 1) := by decide +kernel
theorem dX2_holds_184 : decode cX2_holds 184 = .ok (.ishr, 1) := by decide +kernel
theorem dX2_holds_185 : decode cX2_holds 185 = .ok (.iconst 3, 1) := by decide +kernel
theorem dX2_holds_186 : decode cX2_holds 186 = .ok (.iand, 1) := by decide +kernel
theorem dX2_holds_187 : decode cX2_holds 187 = .ok (.if_icmp .ne 7, 3) := by decide +kernel
theorem dX2_holds_190 : decode cX2_holds 190 = .ok (.iconst 1, 1) := by decide +kernel
theorem dX2_holds_191 : decode cX2_holds 191 = .ok (.goto 4, 3) := by decide +kernel
theorem dX2_holds_194 : decode cX2_holds 194 = .ok (.iconst 0, 1) := by decide +kernel
theorem dX2_holds_195 : decode cX2_holds 195 = .ok (.ior, 1) := by decide +kernel
theorem dX2_holds_196 : decode cX2_holds 196 = .ok (.istore_n 3, 1) := by decide +kernel
theorem dX2_holds_197 : decode cX2_holds 197 = .ok (.iinc 4 1, 3) := by decide +kernel
theorem dX2_holds_200 : decode cX2_holds 200 = .ok (.goto (-195), 3) := by decide +kernel
theorem dX2_holds_203 : decode cX2_holds 203 = .ok (.iload_n 3, 1) := by decide +kernel
theorem dX2_holds_204 : decode cX2_holds 204 = .ok (.iconst 1, 1) := by decide +kernel
theorem dX2_holds_205 : decode cX2_holds 205 = .ok (.iand, 1) := by decide +kernel
theorem dX2_holds_206 : decode cX2_holds 206 = .ok (.iconst 1, 1) := by decide +kernel
theorem dX2_holds_207 : decode cX2_holds 207 = .ok (.if_icmp .ne 7, 3) := by decide +kernel
theorem dX2_holds_210 : decode cX2_holds 210 = .ok (.iconst 1, 1) := by decide +kernel
theorem dX2_holds_211 : decode cX2_holds 211 = .ok (.goto 4, 3) := by decide +kernel
theorem dX2_holds_214 : decode cX2_holds 214 = .ok (.iconst 0, 1) := by decide +kernel
theorem dX2_holds_215 : decode cX2_holds 215 = .ok (.ireturn, 1) := by decide +kernel
theorem dX3_init_0 : decode cX3_init 0 = .ok (.aload_n 0, 1) := by decide +kernel
theorem dX3_init_1 : decode cX3_init 1 = .ok (.iload_n 1, 1) := by decide +kernel
theorem dX3_init_2 : decode cX3_init 2 = .ok (.iload_n 2, 1) := by decide +kernel
theorem dX3_init_3 : decode cX3_init 3 = .ok (.iload_n 3, 1) := by decide +kernel
theorem dX3_init_4 : decode cX3_init 4 = .ok (.aload 4, 2) := by decide +kernel
theorem dX3_init_6 : decode cX3_init 6 = .ok (.invokespecial 1, 3) := by decide +kernel
theorem dX3_init_9 : decode cX3_init 9 = .ok (.return_, 1) := by decide +kernel
theorem dX3_grants_0 : decode cX3_grants 0 = .ok (.aload_n 0, 1) := by decide +kernel
theorem dX3_grants_1 : decode cX3_grants 1 = .ok (.aload_n 1, 1) := by decide +kernel
theorem dX3_grants_2 : decode cX3_grants 2 = .ok (.iload_n 2, 1) := by decide +kernel
theorem dX3_grants_3 : decode cX3_grants 3 = .ok (.invokespecial 7, 3) := by decide +kernel
theorem dX3_grants_6 : decode cX3_grants 6 = .ok (.ifCond .ne 22, 3) := by decide +kernel
theorem dX3_grants_9 : decode cX3_grants 9 = .ok (.aload_n 1, 1) := by decide +kernel
theorem dX3_grants_10 : decode cX3_grants 10 = .ok (.iload_n 2, 1) := by decide +kernel
theorem dX3_grants_11 : decode cX3_grants 11 = .ok (.invokevirtual 11, 3) := by decide +kernel
theorem dX3_grants_14 : decode cX3_grants 14 = .ok (.ifCond .eq 18, 3) := by decide +kernel
theorem dX3_grants_17 : decode cX3_grants 17 = .ok (.aload_n 1, 1) := by decide +kernel
theorem dX3_grants_18 : decode cX3_grants 18 = .ok (.getfield 17, 3) := by decide +kernel
theorem dX3_grants_21 : decode cX3_grants 21 = .ok (.iload_n 2, 1) := by decide +kernel
theorem dX3_grants_22 : decode cX3_grants 22 = .ok (.iaload, 1) := by decide +kernel
theorem dX3_grants_23 : decode cX3_grants 23 = .ok (.bipush 6, 2) := by decide +kernel
theorem dX3_grants_25 : decode cX3_grants 25 = .ok (.if_icmp .le 7, 3) := by decide +kernel
theorem dX3_grants_28 : decode cX3_grants 28 = .ok (.iconst 1, 1) := by decide +kernel
theorem dX3_grants_29 : decode cX3_grants 29 = .ok (.goto 4, 3) := by decide +kernel
theorem dX3_grants_32 : decode cX3_grants 32 = .ok (.iconst 0, 1) := by decide +kernel
theorem dX3_grants_33 : decode cX3_grants 33 = .ok (.ireturn, 1) := by decide +kernel
theorem dX3_hears_0 : decode cX3_hears 0 = .ok (.aload_n 0, 1) := by decide +kernel
theorem dX3_hears_1 : decode cX3_hears 1 = .ok (.bipush 50, 2) := by decide +kernel
theorem dX3_hears_3 : decode cX3_hears 3 = .ok (.invokevirtual 21, 3) := by decide +kernel
theorem dX3_hears_6 : decode cX3_hears 6 = .ok (.aload_n 0, 1) := by decide +kernel
theorem dX3_hears_7 : decode cX3_hears 7 = .ok (.iload_n 1, 1) := by decide +kernel
theorem dX3_hears_8 : decode cX3_hears 8 = .ok (.invokespecial 27, 3) := by decide +kernel
theorem dX3_hears_11 : decode cX3_hears 11 = .ok (.ineg, 1) := by decide +kernel
theorem dX3_hears_12 : decode cX3_hears 12 = .ok (.ireturn, 1) := by decide +kernel
theorem dX3_gives_0 : decode cX3_gives 0 = .ok (.aload_n 0, 1) := by decide +kernel
theorem dX3_gives_1 : decode cX3_gives 1 = .ok (.bipush 51, 2) := by decide +kernel
theorem dX3_gives_3 : decode cX3_gives 3 = .ok (.invokevirtual 21, 3) := by decide +kernel
theorem dX3_gives_6 : decode cX3_gives 6 = .ok (.aload_n 0, 1) := by decide +kernel
theorem dX3_gives_7 : decode cX3_gives 7 = .ok (.iload_n 1, 1) := by decide +kernel
theorem dX3_gives_8 : decode cX3_gives 8 = .ok (.iconst 1, 1) := by decide +kernel
theorem dX3_gives_9 : decode cX3_gives 9 = .ok (.iadd, 1) := by decide +kernel
theorem dX3_gives_10 : decode cX3_gives 10 = .ok (.invokespecial 31, 3) := by decide +kernel
theorem dX3_gives_13 : decode cX3_gives 13 = .ok (.ireturn, 1) := by decide +kernel
theorem dX4_init_0 : decode cX4_init 0 = .ok (.aload_n 0, 1) := by decide +kernel
theorem dX4_init_1 : decode cX4_init 1 = .ok (.invokespecial 3, 3) := by decide +kernel
theorem dX4_init_4 : decode cX4_init 4 = .ok (.aload_n 0, 1) := by decide +kernel
theorem dX4_init_5 : decode cX4_init 5 = .ok (.iload_n 1, 1) := by decide +kernel
theorem dX4_init_6 : decode cX4_init 6 = .ok (.putfield 9, 3) := by decide +kernel
theorem dX4_init_9 : decode cX4_init 9 = .ok (.aload_n 0, 1) := by decide +kernel
theorem dX4_init_10 : decode cX4_init 10 = .ok (.iload_n 2, 1) := by decide +kernel
theorem dX4_init_11 : decode cX4_init 11 = .ok (.putfield 15, 3) := by decide +kernel
theorem dX4_init_14 : decode cX4_init 14 = .ok (.aload_n 0, 1) := by decide +kernel
theorem dX4_init_15 : decode cX4_init 15 = .ok (.iload_n 3, 1) := by decide +kernel
theorem dX4_init_16 : decode cX4_init 16 = .ok (.putfield 18, 3) := by decide +kernel
theorem dX4_init_19 : decode cX4_init 19 = .ok (.aload_n 0, 1) := by decide +kernel
theorem dX4_init_20 : decode cX4_init 20 = .ok (.aload 4, 2) := by decide +kernel
theorem dX4_init_22 : decode cX4_init 22 = .ok (.putfield 21, 3) := by decide +kernel
theorem dX4_init_25 : decode cX4_init 25 = .ok (.return_, 1) := by decide +kernel
theorem dX4_begins_0 : decode cX4_begins 0 = .ok (.aload_n 0, 1) := by decide +kernel
theorem dX4_begins_1 : decode cX4_begins 1 = .ok (.getfield 21, 3) := by decide +kernel
theorem dX4_begins_4 : decode cX4_begins 4 = .ok (.bipush 20, 2) := by decide +kernel
theorem dX4_begins_6 : decode cX4_begins 6 = .ok (.dup2, 1) := by decide +kernel
theorem dX4_begins_7 : decode cX4_begins 7 = .ok (.iaload, 1) := by decide +kernel
theorem dX4_begins_8 : decode cX4_begins 8 = .ok (.dup_x2, 1) := by decide +kernel
theorem dX4_begins_9 : decode cX4_begins 9 = .ok (.iconst 1, 1) := by decide +kernel
theorem dX4_begins_10 : decode cX4_begins 10 = .ok (.iadd, 1) := by decide +kernel
theorem dX4_begins_11 : decode cX4_begins 11 = .ok (.iastore, 1) := by decide +kernel
theorem dX4_begins_12 : decode cX4_begins 12 = .ok (.istore_n 2, 1) := by decide +kernel
theorem dX4_begins_13 : decode cX4_begins 13 = .ok (.iload_n 2, 1) := by decide +kernel
theorem dX4_begins_14 : decode cX4_begins 14 = .ok (.ifCond .lt 16, 3) := by decide +kernel
theorem dX4_begins_17 : decode cX4_begins 17 = .ok (.iload_n 2, 1) := by decide +kernel
theorem dX4_begins_18 : decode cX4_begins 18 = .ok (.bipush 20, 2) := by decide +kernel
theorem dX4_begins_20 : decode cX4_begins 20 = .ok (.if_icmp .ge 10, 3) := by decide +kernel
theorem dX4_begins_23 : decode cX4_begins 23 = .ok (.aload_n 0, 1) := by decide +kernel
theorem dX4_begins_24 : decode cX4_begins 24 = .ok (.getfield 21, 3) := by decide +kernel
theorem dX4_begins_27 : decode cX4_begins 27 = .ok (.iload_n 2, 1) := by decide +kernel
theorem dX4_begins_28 : decode cX4_begins 28 = .ok (.iload_n 1, 1) := by decide +kernel
theorem dX4_begins_29 : decode cX4_begins 29 = .ok (.iastore, 1) := by decide +kernel
theorem dX4_begins_30 : decode cX4_begins 30 = .ok (.return_, 1) := by decide +kernel
theorem dX4_grants_0 : decode cX4_grants 0 = .ok (.aload_n 1, 1) := by decide +kernel
theorem dX4_grants_1 : decode cX4_grants 1 = .ok (.iload_n 2, 1) := by decide +kernel
theorem dX4_grants_2 : decode cX4_grants 2 = .ok (.invokevirtual 25, 3) := by decide +kernel
theorem dX4_grants_5 : decode cX4_grants 5 = .ok (.ifCond .eq 25, 3) := by decide +kernel
theorem dX4_grants_8 : decode cX4_grants 8 = .ok (.aload_n 1, 1) := by decide +kernel
theorem dX4_grants_9 : decode cX4_grants 9 = .ok (.getfield 31, 3) := by decide +kernel
theorem dX4_grants_12 : decode cX4_grants 12 = .ok (.aload_n 1, 1) := by decide +kernel
theorem dX4_grants_13 : decode cX4_grants 13 = .ok (.getfield 34, 3) := by decide +kernel
theorem dX4_grants_16 : decode cX4_grants 16 = .ok (.iload_n 2, 1) := by decide +kernel
theorem dX4_grants_17 : decode cX4_grants 17 = .ok (.iaload, 1) := by decide +kernel
theorem dX4_grants_18 : decode cX4_grants 18 = .ok (.iadd, 1) := by decide +kernel
theorem dX4_grants_19 : decode cX4_grants 19 = .ok (.aload_n 1, 1) := by decide +kernel
theorem dX4_grants_20 : decode cX4_grants 20 = .ok (.getfield 37, 3) := by decide +kernel
theorem dX4_grants_23 : decode cX4_grants 23 = .ok (.if_icmp .ge 7, 3) := by decide +kernel
theorem dX4_grants_26 : decode cX4_grants 26 = .ok (.iconst 1, 1) := by decide +kernel
theorem dX4_grants_27 : decode cX4_grants 27 = .ok (.goto 4, 3) := by decide +kernel
theorem dX4_grants_30 : decode cX4_grants 30 = .ok (.iconst 0, 1) := by decide +kernel
theorem dX4_grants_31 : decode cX4_grants 31 = .ok (.ireturn, 1) := by decide +kernel
theorem dX4_hears_0 : decode cX4_hears 0 = .ok (.aload_n 0, 1) := by decide +kernel
theorem dX4_hears_1 : decode cX4_hears 1 = .ok (.getfield 21, 3) := by decide +kernel
theorem dX4_hears_4 : decode cX4_hears 4 = .ok (.bipush 20, 2) := by decide +kernel
theorem dX4_hears_6 : decode cX4_hears 6 = .ok (.dup2, 1) := by decide +kernel
theorem dX4_hears_7 : decode cX4_hears 7 = .ok (.iaload, 1) := by decide +kernel
theorem dX4_hears_8 : decode cX4_hears 8 = .ok (.dup_x2, 1) := by decide +kernel
theorem dX4_hears_9 : decode cX4_hears 9 = .ok (.iconst 1, 1) := by decide +kernel
theorem dX4_hears_10 : decode cX4_hears 10 = .ok (.iadd, 1) := by decide +kernel
theorem dX4_hears_11 : decode cX4_hears 11 = .ok (.iastore, 1) := by decide +kernel
theorem dX4_hears_12 : decode cX4_hears 12 = .ok (.istore_n 2, 1) := by decide +kernel
theorem dX4_hears_13 : decode cX4_hears 13 = .ok (.iload_n 2, 1) := by decide +kernel
theorem dX4_hears_14 : decode cX4_hears 14 = .ok (.ifCond .lt 17, 3) := by decide +kernel
theorem dX4_hears_17 : decode cX4_hears 17 = .ok (.iload_n 2, 1) := by decide +kernel
theorem dX4_hears_18 : decode cX4_hears 18 = .ok (.bipush 20, 2) := by decide +kernel
theorem dX4_hears_20 : decode cX4_hears 20 = .ok (.if_icmp .ge 11, 3) := by decide +kernel
theorem dX4_hears_23 : decode cX4_hears 23 = .ok (.aload_n 0, 1) := by decide +kernel
theorem dX4_hears_24 : decode cX4_hears 24 = .ok (.getfield 21, 3) := by decide +kernel
theorem dX4_hears_27 : decode cX4_hears 27 = .ok (.iload_n 2, 1) := by decide +kernel
theorem dX4_hears_28 : decode cX4_hears 28 = .ok (.bipush 10, 2) := by decide +kernel
theorem dX4_hears_30 : decode cX4_hears 30 = .ok (.iastore, 1) := by decide +kernel
theorem dX4_hears_31 : decode cX4_hears 31 = .ok (.iload_n 1, 1) := by decide +kernel
theorem dX4_hears_32 : decode cX4_hears 32 = .ok (.aload_n 0, 1) := by decide +kernel
theorem dX4_hears_33 : decode cX4_hears 33 = .ok (.getfield 15, 3) := by decide +kernel
theorem dX4_hears_36 : decode cX4_hears 36 = .ok (.iadd, 1) := by decide +kernel
theorem dX4_hears_37 : decode cX4_hears 37 = .ok (.ireturn, 1) := by decide +kernel
theorem dX4_gives_0 : decode cX4_gives 0 = .ok (.aload_n 0, 1) := by decide +kernel
theorem dX4_gives_1 : decode cX4_gives 1 = .ok (.bipush 11, 2) := by decide +kernel
theorem dX4_gives_3 : decode cX4_gives 3 = .ok (.invokevirtual 40, 3) := by decide +kernel
theorem dX4_gives_6 : decode cX4_gives 6 = .ok (.aload_n 0, 1) := by decide +kernel
theorem dX4_gives_7 : decode cX4_gives 7 = .ok (.iload_n 1, 1) := by decide +kernel
theorem dX4_gives_8 : decode cX4_gives 8 = .ok (.invokevirtual 44, 3) := by decide +kernel
theorem dX4_gives_11 : decode cX4_gives 11 = .ok (.aload_n 0, 1) := by decide +kernel
theorem dX4_gives_12 : decode cX4_gives 12 = .ok (.getfield 18, 3) := by decide +kernel
theorem dX4_gives_15 : decode cX4_gives 15 = .ok (.isub, 1) := by decide +kernel
theorem dX4_gives_16 : decode cX4_gives 16 = .ok (.ireturn, 1) := by decide +kernel
theorem dX4_tells_0 : decode cX4_tells 0 = .ok (.aload_n 0, 1) := by decide +kernel
theorem dX4_tells_1 : decode cX4_tells 1 = .ok (.bipush 12, 2) := by decide +kernel
theorem dX4_tells_3 : decode cX4_tells 3 = .ok (.invokevirtual 40, 3) := by decide +kernel
theorem dX4_tells_6 : decode cX4_tells 6 = .ok (.aload_n 0, 1) := by decide +kernel
theorem dX4_tells_7 : decode cX4_tells 7 = .ok (.iload_n 1, 1) := by decide +kernel
theorem dX4_tells_8 : decode cX4_tells 8 = .ok (.invokevirtual 48, 3) := by decide +kernel
theorem dX4_tells_11 : decode cX4_tells 11 = .ok (.iconst 2, 1) := by decide +kernel
theorem dX4_tells_12 : decode cX4_tells 12 = .ok (.imul, 1) := by decide +kernel
theorem dX4_tells_13 : decode cX4_tells 13 = .ok (.ireturn, 1) := by decide +kernel
theorem dX6_init_0 : decode cX6_init 0 = .ok (.aload_n 0, 1) := by decide +kernel
theorem dX6_init_1 : decode cX6_init 1 = .ok (.iload_n 1, 1) := by decide +kernel
theorem dX6_init_2 : decode cX6_init 2 = .ok (.iload_n 2, 1) := by decide +kernel
theorem dX6_init_3 : decode cX6_init 3 = .ok (.iload_n 3, 1) := by decide +kernel
theorem dX6_init_4 : decode cX6_init 4 = .ok (.aload 4, 2) := by decide +kernel
theorem dX6_init_6 : decode cX6_init 6 = .ok (.invokespecial 1, 3) := by decide +kernel
theorem dX6_init_9 : decode cX6_init 9 = .ok (.return_, 1) := by decide +kernel
theorem dX6_grants_0 : decode cX6_grants 0 = .ok (.aload_n 0, 1) := by decide +kernel
theorem dX6_grants_1 : decode cX6_grants 1 = .ok (.aload_n 1, 1) := by decide +kernel
theorem dX6_grants_2 : decode cX6_grants 2 = .ok (.iload_n 2, 1) := by decide +kernel
theorem dX6_grants_3 : decode cX6_grants 3 = .ok (.invokespecial 7, 3) := by decide +kernel
theorem dX6_grants_6 : decode cX6_grants 6 = .ok (.ifCond .ne 11, 3) := by decide +kernel
theorem dX6_grants_9 : decode cX6_grants 9 = .ok (.aload_n 1, 1) := by decide +kernel
theorem dX6_grants_10 : decode cX6_grants 10 = .ok (.getfield 11, 3) := by decide +kernel
theorem dX6_grants_13 : decode cX6_grants 13 = .ok (.iconst 2, 1) := by decide +kernel
theorem dX6_grants_14 : decode cX6_grants 14 = .ok (.if_icmp .lt 7, 3) := by decide +kernel
theorem dX6_grants_17 : decode cX6_grants 17 = .ok (.iconst 1, 1) := by decide +kernel
theorem dX6_grants_18 : decode cX6_grants 18 = .ok (.goto 4, 3) := by decide +kernel
theorem dX6_grants_21 : decode cX6_grants 21 = .ok (.iconst 0, 1) := by decide +kernel
theorem dX6_grants_22 : decode cX6_grants 22 = .ok (.ireturn, 1) := by decide +kernel
theorem dX6_gives_0 : decode cX6_gives 0 = .ok (.aload_n 0, 1) := by decide +kernel
theorem dX6_gives_1 : decode cX6_gives 1 = .ok (.bipush 20, 2) := by decide +kernel
theorem dX6_gives_3 : decode cX6_gives 3 = .ok (.invokevirtual 17, 3) := by decide +kernel
theorem dX6_gives_6 : decode cX6_gives 6 = .ok (.aload_n 0, 1) := by decide +kernel
theorem dX6_gives_7 : decode cX6_gives 7 = .ok (.iload_n 1, 1) := by decide +kernel
theorem dX6_gives_8 : decode cX6_gives 8 = .ok (.invokespecial 23, 3) := by decide +kernel
theorem dX6_gives_11 : decode cX6_gives 11 = .ok (.bipush 6, 2) := by decide +kernel
theorem dX6_gives_13 : decode cX6_gives 13 = .ok (.ixor, 1) := by decide +kernel
theorem dX6_gives_14 : decode cX6_gives 14 = .ok (.ireturn, 1) := by decide +kernel
theorem dX7_init_0 : decode cX7_init 0 = .ok (.aload_n 0, 1) := by decide +kernel
theorem dX7_init_1 : decode cX7_init 1 = .ok (.iload_n 1, 1) := by decide +kernel
theorem dX7_init_2 : decode cX7_init 2 = .ok (.iload_n 2, 1) := by decide +kernel
theorem dX7_init_3 : decode cX7_init 3 = .ok (.iload_n 3, 1) := by decide +kernel
theorem dX7_init_4 : decode cX7_init 4 = .ok (.aload 4, 2) := by decide +kernel
theorem dX7_init_6 : decode cX7_init 6 = .ok (.invokespecial 1, 3) := by decide +kernel
theorem dX7_init_9 : decode cX7_init 9 = .ok (.return_, 1) := by decide +kernel
theorem dX7_grants_0 : decode cX7_grants 0 = .ok (.aload_n 0, 1) := by decide +kernel
theorem dX7_grants_1 : decode cX7_grants 1 = .ok (.aload_n 1, 1) := by decide +kernel
theorem dX7_grants_2 : decode cX7_grants 2 = .ok (.iload_n 2, 1) := by decide +kernel
theorem dX7_grants_3 : decode cX7_grants 3 = .ok (.invokespecial 7, 3) := by decide +kernel
theorem dX7_grants_6 : decode cX7_grants 6 = .ok (.ifCond .eq 18, 3) := by decide +kernel
theorem dX7_grants_9 : decode cX7_grants 9 = .ok (.aload_n 1, 1) := by decide +kernel
theorem dX7_grants_10 : decode cX7_grants 10 = .ok (.getfield 11, 3) := by decide +kernel
theorem dX7_grants_13 : decode cX7_grants 13 = .ok (.aload_n 0, 1) := by decide +kernel
theorem dX7_grants_14 : decode cX7_grants 14 = .ok (.getfield 17, 3) := by decide +kernel
theorem dX7_grants_17 : decode cX7_grants 17 = .ok (.if_icmp .ge 7, 3) := by decide +kernel
theorem dX7_grants_20 : decode cX7_grants 20 = .ok (.iconst 1, 1) := by decide +kernel
theorem dX7_grants_21 : decode cX7_grants 21 = .ok (.goto 4, 3) := by decide +kernel
theorem dX7_grants_24 : decode cX7_grants 24 = .ok (.iconst 0, 1) := by decide +kernel
theorem dX7_grants_25 : decode cX7_grants 25 = .ok (.ireturn, 1) := by decide +kernel
theorem dX7_hears_0 : decode cX7_hears 0 = .ok (.aload_n 0, 1) := by decide +kernel
theorem dX7_hears_1 : decode cX7_hears 1 = .ok (.bipush 30, 2) := by decide +kernel
theorem dX7_hears_3 : decode cX7_hears 3 = .ok (.invokevirtual 22, 3) := by decide +kernel
theorem dX7_hears_6 : decode cX7_hears 6 = .ok (.aload_n 0, 1) := by decide +kernel
theorem dX7_hears_7 : decode cX7_hears 7 = .ok (.iload_n 1, 1) := by decide +kernel
theorem dX7_hears_8 : decode cX7_hears 8 = .ok (.iconst 3, 1) := by decide +kernel
theorem dX7_hears_9 : decode cX7_hears 9 = .ok (.imul, 1) := by decide +kernel
theorem dX7_hears_10 : decode cX7_hears 10 = .ok (.invokespecial 26, 3) := by decide +kernel
theorem dX7_hears_13 : decode cX7_hears 13 = .ok (.ireturn, 1) := by decide +kernel
theorem dX8_init_0 : decode cX8_init 0 = .ok (.aload_n 0, 1) := by decide +kernel
theorem dX8_init_1 : decode cX8_init 1 = .ok (.iload_n 1, 1) := by decide +kernel
theorem dX8_init_2 : decode cX8_init 2 = .ok (.iload_n 2, 1) := by decide +kernel
theorem dX8_init_3 : decode cX8_init 3 = .ok (.iload_n 3, 1) := by decide +kernel
theorem dX8_init_4 : decode cX8_init 4 = .ok (.aload 4, 2) := by decide +kernel
theorem dX8_init_6 : decode cX8_init 6 = .ok (.invokespecial 1, 3) := by decide +kernel
theorem dX8_init_9 : decode cX8_init 9 = .ok (.return_, 1) := by decide +kernel
theorem dX8_grants_0 : decode cX8_grants 0 = .ok (.aload_n 1, 1) := by decide +kernel
theorem dX8_grants_1 : decode cX8_grants 1 = .ok (.iload_n 2, 1) := by decide +kernel
theorem dX8_grants_2 : decode cX8_grants 2 = .ok (.invokevirtual 7, 3) := by decide +kernel
theorem dX8_grants_5 : decode cX8_grants 5 = .ok (.ifCond .eq 20, 3) := by decide +kernel
theorem dX8_grants_8 : decode cX8_grants 8 = .ok (.aload_n 1, 1) := by decide +kernel
theorem dX8_grants_9 : decode cX8_grants 9 = .ok (.getfield 13, 3) := by decide +kernel
theorem dX8_grants_12 : decode cX8_grants 12 = .ok (.iload_n 2, 1) := by decide +kernel
theorem dX8_grants_13 : decode cX8_grants 13 = .ok (.iaload, 1) := by decide +kernel
theorem dX8_grants_14 : decode cX8_grants 14 = .ok (.aload_n 0, 1) := by decide +kernel
theorem dX8_grants_15 : decode cX8_grants 15 = .ok (.getfield 17, 3) := by decide +kernel
theorem dX8_grants_18 : decode cX8_grants 18 = .ok (.if_icmp .gt 7, 3) := by decide +kernel
theorem dX8_grants_21 : decode cX8_grants 21 = .ok (.iconst 1, 1) := by decide +kernel
theorem dX8_grants_22 : decode cX8_grants 22 = .ok (.goto 4, 3) := by decide +kernel
theorem dX8_grants_25 : decode cX8_grants 25 = .ok (.iconst 0, 1) := by decide +kernel
theorem dX8_grants_26 : decode cX8_grants 26 = .ok (.ireturn, 1) := by decide +kernel
theorem dX8_tells_0 : decode cX8_tells 0 = .ok (.aload_n 0, 1) := by decide +kernel
theorem dX8_tells_1 : decode cX8_tells 1 = .ok (.bipush 40, 2) := by decide +kernel
theorem dX8_tells_3 : decode cX8_tells 3 = .ok (.invokevirtual 23, 3) := by decide +kernel
theorem dX8_tells_6 : decode cX8_tells 6 = .ok (.aload_n 0, 1) := by decide +kernel
theorem dX8_tells_7 : decode cX8_tells 7 = .ok (.iload_n 1, 1) := by decide +kernel
theorem dX8_tells_8 : decode cX8_tells 8 = .ok (.invokespecial 27, 3) := by decide +kernel
theorem dX8_tells_11 : decode cX8_tells 11 = .ok (.aload_n 0, 1) := by decide +kernel
theorem dX8_tells_12 : decode cX8_tells 12 = .ok (.iconst 1, 1) := by decide +kernel
theorem dX8_tells_13 : decode cX8_tells 13 = .ok (.invokevirtual 31, 3) := by decide +kernel
theorem dX8_tells_16 : decode cX8_tells 16 = .ok (.iadd, 1) := by decide +kernel
theorem dX8_tells_17 : decode cX8_tells 17 = .ok (.ireturn, 1) := by decide +kernel
theorem dX9_init_0 : decode cX9_init 0 = .ok (.aload_n 0, 1) := by decide +kernel
theorem dX9_init_1 : decode cX9_init 1 = .ok (.iload_n 1, 1) := by decide +kernel
theorem dX9_init_2 : decode cX9_init 2 = .ok (.iload_n 2, 1) := by decide +kernel
theorem dX9_init_3 : decode cX9_init 3 = .ok (.iload_n 3, 1) := by decide +kernel
theorem dX9_init_4 : decode cX9_init 4 = .ok (.aload 4, 2) := by decide +kernel
theorem dX9_init_6 : decode cX9_init 6 = .ok (.invokespecial 3, 3) := by decide +kernel
theorem dX9_init_9 : decode cX9_init 9 = .ok (.return_, 1) := by decide +kernel
theorem dX9_grants_0 : decode cX9_grants 0 = .ok (.iconst 4, 1) := by decide +kernel
theorem dX9_grants_1 : decode cX9_grants 1 = .ok (.aload_n 0, 1) := by decide +kernel
theorem dX9_grants_2 : decode cX9_grants 2 = .ok (.getfield 9, 3) := by decide +kernel
theorem dX9_grants_5 : decode cX9_grants 5 = .ok (.imul, 1) := by decide +kernel
theorem dX9_grants_6 : decode cX9_grants 6 = .ok (.aload_n 1, 1) := by decide +kernel
theorem dX9_grants_7 : decode cX9_grants 7 = .ok (.getfield 15, 3) := by decide +kernel
theorem dX9_grants_10 : decode cX9_grants 10 = .ok (.iconst 4, 1) := by decide +kernel
theorem dX9_grants_11 : decode cX9_grants 11 = .ok (.irem, 1) := by decide +kernel
theorem dX9_grants_12 : decode cX9_grants 12 = .ok (.iadd, 1) := by decide +kernel
theorem dX9_grants_13 : decode cX9_grants 13 = .ok (.istore_n 3, 1) := by decide +kernel
theorem dX9_grants_14 : decode cX9_grants 14 = .ok (.aload_n 0, 1) := by decide +kernel
theorem dX9_grants_15 : decode cX9_grants 15 = .ok (.aload_n 1, 1) := by decide +kernel
theorem dX9_grants_16 : decode cX9_grants 16 = .ok (.iload_n 2, 1) := by decide +kernel
theorem dX9_grants_17 : decode cX9_grants 17 = .ok (.invokespecial 20, 3) := by decide +kernel
theorem dX9_grants_20 : decode cX9_grants 20 = .ok (.ifCond .eq 29, 3) := by decide +kernel
theorem dX9_grants_23 : decode cX9_grants 23 = .ok (.iload_n 3, 1) := by decide +kernel
theorem dX9_grants_24 : decode cX9_grants 24 = .ok (.ifCond .lt 25, 3) := by decide +kernel
theorem dX9_grants_27 : decode cX9_grants 27 = .ok (.iload_n 3, 1) := by decide +kernel
theorem dX9_grants_28 : decode cX9_grants 28 = .ok (.aload_n 1, 1) := by decide +kernel
theorem dX9_grants_29 : decode cX9_grants 29 = .ok (.getfield 24, 3) := by decide +kernel
theorem dX9_grants_32 : decode cX9_grants 32 = .ok (.arraylength, 1) := by decide +kernel
theorem dX9_grants_33 : decode cX9_grants 33 = .ok (.if_icmp .ge 16, 3) := by decide +kernel
theorem dX9_grants_36 : decode cX9_grants 36 = .ok (.aload_n 1, 1) := by decide +kernel
theorem dX9_grants_37 : decode cX9_grants 37 = .ok (.getfield 24, 3) := by decide +kernel
theorem dX9_grants_40 : decode cX9_grants 40 = .ok (.iload_n 3, 1) := by decide +kernel
theorem dX9_grants_41 : decode cX9_grants 41 = .ok (.iaload, 1) := by decide +kernel
theorem dX9_grants_42 : decode cX9_grants 42 = .ok (.ifCond .eq 7, 3) := by decide +kernel
theorem dX9_grants_45 : decode cX9_grants 45 = .ok (.iconst 1, 1) := by decide +kernel
theorem dX9_grants_46 : decode cX9_grants 46 = .ok (.goto 4, 3) := by decide +kernel
theorem dX9_grants_49 : decode cX9_grants 49 = .ok (.iconst 0, 1) := by decide +kernel
theorem dX9_grants_50 : decode cX9_grants 50 = .ok (.ireturn, 1) := by decide +kernel
theorem dX9_gives_0 : decode cX9_gives 0 = .ok (.aload_n 0, 1) := by decide +kernel
theorem dX9_gives_1 : decode cX9_gives 1 = .ok (.bipush 70, 2) := by decide +kernel
theorem dX9_gives_3 : decode cX9_gives 3 = .ok (.invokevirtual 28, 3) := by decide +kernel
theorem dX9_gives_6 : decode cX9_gives 6 = .ok (.aload_n 0, 1) := by decide +kernel
theorem dX9_gives_7 : decode cX9_gives 7 = .ok (.iload_n 1, 1) := by decide +kernel
theorem dX9_gives_8 : decode cX9_gives 8 = .ok (.invokespecial 32, 3) := by decide +kernel
theorem dX9_gives_11 : decode cX9_gives 11 = .ok (.aload_n 0, 1) := by decide +kernel
theorem dX9_gives_12 : decode cX9_gives 12 = .ok (.iconst 2, 1) := by decide +kernel
theorem dX9_gives_13 : decode cX9_gives 13 = .ok (.invokespecial 36, 3) := by decide +kernel
theorem dX9_gives_16 : decode cX9_gives 16 = .ok (.iadd, 1) := by decide +kernel
theorem dX9_gives_17 : decode cX9_gives 17 = .ok (.ireturn, 1) := by decide +kernel
theorem dX9_hears_0 : decode cX9_hears 0 = .ok (.aload_n 0, 1) := by decide +kernel
theorem dX9_hears_1 : decode cX9_hears 1 = .ok (.bipush 71, 2) := by decide +kernel
theorem dX9_hears_3 : decode cX9_hears 3 = .ok (.invokevirtual 28, 3) := by decide +kernel
theorem dX9_hears_6 : decode cX9_hears 6 = .ok (.aload_n 0, 1) := by decide +kernel
theorem dX9_hears_7 : decode cX9_hears 7 = .ok (.iload_n 1, 1) := by decide +kernel
theorem dX9_hears_8 : decode cX9_hears 8 = .ok (.invokespecial 36, 3) := by decide +kernel
theorem dX9_hears_11 : decode cX9_hears 11 = .ok (.aload_n 0, 1) := by decide +kernel
theorem dX9_hears_12 : decode cX9_hears 12 = .ok (.getfield 39, 3) := by decide +kernel
theorem dX9_hears_15 : decode cX9_hears 15 = .ok (.ixor, 1) := by decide +kernel
theorem dX9_hears_16 : decode cX9_hears 16 = .ok (.ireturn, 1) := by decide +kernel
theorem dX10_init_0 : decode cX10_init 0 = .ok (.aload_n 0, 1) := by decide +kernel
theorem dX10_init_1 : decode cX10_init 1 = .ok (.invokespecial 3, 3) := by decide +kernel
theorem dX10_init_4 : decode cX10_init 4 = .ok (.aload_n 0, 1) := by decide +kernel
theorem dX10_init_5 : decode cX10_init 5 = .ok (.new 9, 3) := by decide +kernel
theorem dX10_init_8 : decode cX10_init 8 = .ok (.dup, 1) := by decide +kernel
theorem dX10_init_9 : decode cX10_init 9 = .ok (.invokespecial 11, 3) := by decide +kernel
theorem dX10_init_12 : decode cX10_init 12 = .ok (.putfield 12, 3) := by decide +kernel
theorem dX10_init_15 : decode cX10_init 15 = .ok (.aload_n 0, 1) := by decide +kernel
theorem dX10_init_16 : decode cX10_init 16 = .ok (.bipush 7, 2) := by decide +kernel
theorem dX10_init_18 : decode cX10_init 18 = .ok (.newarray .int, 2) := by decide +kernel
theorem dX10_init_20 : decode cX10_init 20 = .ok (.putfield 18, 3) := by decide +kernel
theorem dX10_init_23 : decode cX10_init 23 = .ok (.return_, 1) := by decide +kernel
theorem dX10_start_0 : decode cX10_start 0 = .ok (.aload_n 0, 1) := by decide +kernel
theorem dX10_start_1 : decode cX10_start 1 = .ok (.getfield 12, 3) := by decide +kernel
theorem dX10_start_4 : decode cX10_start 4 = .ok (.aload_n 1, 1) := by decide +kernel
theorem dX10_start_5 : decode cX10_start 5 = .ok (.invokevirtual 22, 3) := by decide +kernel
theorem dX10_start_8 : decode cX10_start 8 = .ok (.aload_n 0, 1) := by decide +kernel
theorem dX10_start_9 : decode cX10_start 9 = .ok (.aload_n 1, 1) := by decide +kernel
theorem dX10_start_10 : decode cX10_start 10 = .ok (.getfield 26, 3) := by decide +kernel
theorem dX10_start_13 : decode cX10_start 13 = .ok (.bipush 7, 2) := by decide +kernel
theorem dX10_start_15 : decode cX10_start 15 = .ok (.invokestatic 30, 3) := by decide +kernel
theorem dX10_start_18 : decode cX10_start 18 = .ok (.putfield 36, 3) := by decide +kernel
theorem dX10_start_21 : decode cX10_start 21 = .ok (.iconst 0, 1) := by decide +kernel
theorem dX10_start_22 : decode cX10_start 22 = .ok (.istore_n 2, 1) := by decide +kernel
theorem dX10_start_23 : decode cX10_start 23 = .ok (.iload_n 2, 1) := by decide +kernel
theorem dX10_start_24 : decode cX10_start 24 = .ok (.aload_n 0, 1) := by decide +kernel
theorem dX10_start_25 : decode cX10_start 25 = .ok (.getfield 36, 3) := by decide +kernel
theorem dX10_start_28 : decode cX10_start 28 = .ok (.if_icmp .ge 16, 3) := by decide +kernel
theorem dX10_start_31 : decode cX10_start 31 = .ok (.aload_n 0, 1) := by decide +kernel
theorem dX10_start_32 : decode cX10_start 32 = .ok (.getfield 18, 3) := by decide +kernel
theorem dX10_start_35 : decode cX10_start 35 = .ok (.iload_n 2, 1) := by decide +kernel
theorem dX10_start_36 : decode cX10_start 36 = .ok (.iload_n 2, 1) := by decide +kernel
theorem dX10_start_37 : decode cX10_start 37 = .ok (.iastore, 1) := by decide +kernel
theorem dX10_start_38 : decode cX10_start 38 = .ok (.iinc 2 1, 3) := by decide +kernel
theorem dX10_start_41 : decode cX10_start 41 = .ok (.goto (-18), 3) := by decide +kernel
theorem dX10_start_44 : decode cX10_start 44 = .ok (.aload_n 0, 1) := by decide +kernel
theorem dX10_start_45 : decode cX10_start 45 = .ok (.aload_n 1, 1) := by decide +kernel
theorem dX10_start_46 : decode cX10_start 46 = .ok (.getfield 39, 3) := by decide +kernel
theorem dX10_start_49 : decode cX10_start 49 = .ok (.putfield 42, 3) := by decide +kernel
theorem dX10_start_52 : decode cX10_start 52 = .ok (.aload_n 0, 1) := by decide +kernel
theorem dX10_start_53 : decode cX10_start 53 = .ok (.sipush 1000, 3) := by decide +kernel
theorem dX10_start_56 : decode cX10_start 56 = .ok (.putfield 45, 3) := by decide +kernel
theorem dX10_start_59 : decode cX10_start 59 = .ok (.aload_n 0, 1) := by decide +kernel
theorem dX10_start_60 : decode cX10_start 60 = .ok (.iconst 0, 1) := by decide +kernel
theorem dX10_start_61 : decode cX10_start 61 = .ok (.putfield 48, 3) := by decide +kernel
theorem dX10_start_64 : decode cX10_start 64 = .ok (.aload_n 0, 1) := by decide +kernel
theorem dX10_start_65 : decode cX10_start 65 = .ok (.iconst 0, 1) := by decide +kernel
theorem dX10_start_66 : decode cX10_start 66 = .ok (.putfield 51, 3) := by decide +kernel
theorem dX10_start_69 : decode cX10_start 69 = .ok (.return_, 1) := by decide +kernel
theorem dX10_skip_0 : decode cX10_skip 0 = .ok (.iload_n 1, 1) := by decide +kernel
theorem dX10_skip_1 : decode cX10_skip 1 = .ok (.ifCond .lt 11, 3) := by decide +kernel
theorem dX10_skip_4 : decode cX10_skip 4 = .ok (.iload_n 1, 1) := by decide +kernel
theorem dX10_skip_5 : decode cX10_skip 5 = .ok (.aload_n 0, 1) := by decide +kernel
theorem dX10_skip_6 : decode cX10_skip 6 = .ok (.getfield 36, 3) := by decide +kernel
theorem dX10_skip_9 : decode cX10_skip 9 = .ok (.if_icmp .lt 4, 3) := by decide +kernel
theorem dX10_skip_12 : decode cX10_skip 12 = .ok (.return_, 1) := by decide +kernel
theorem dX10_skip_13 : decode cX10_skip 13 = .ok (.aload_n 0, 1) := by decide +kernel
theorem dX10_skip_14 : decode cX10_skip 14 = .ok (.dup, 1) := by decide +kernel
theorem dX10_skip_15 : decode cX10_skip 15 = .ok (.getfield 36, 3) := by decide +kernel
theorem dX10_skip_18 : decode cX10_skip 18 = .ok (.iconst 1, 1) := by decide +kernel
theorem dX10_skip_19 : decode cX10_skip 19 = .ok (.isub, 1) := by decide +kernel
theorem dX10_skip_20 : decode cX10_skip 20 = .ok (.putfield 36, 3) := by decide +kernel
theorem dX10_skip_23 : decode cX10_skip 23 = .ok (.iload_n 1, 1) := by decide +kernel
theorem dX10_skip_24 : decode cX10_skip 24 = .ok (.istore_n 2, 1) := by decide +kernel
theorem dX10_skip_25 : decode cX10_skip 25 = .ok (.iload_n 2, 1) := by decide +kernel
theorem dX10_skip_26 : decode cX10_skip 26 = .ok (.aload_n 0, 1) := by decide +kernel
theorem dX10_skip_27 : decode cX10_skip 27 = .ok (.getfield 36, 3) := by decide +kernel
theorem dX10_skip_30 : decode cX10_skip 30 = .ok (.if_icmp .ge 23, 3) := by decide +kernel
theorem dX10_skip_33 : decode cX10_skip 33 = .ok (.aload_n 0, 1) := by decide +kernel
theorem dX10_skip_34 : decode cX10_skip 34 = .ok (.getfield 18, 3) := by decide +kernel
theorem dX10_skip_37 : decode cX10_skip 37 = .ok (.iload_n 2, 1) := by decide +kernel
theorem dX10_skip_38 : decode cX10_skip 38 = .ok (.aload_n 0, 1) := by decide +kernel
theorem dX10_skip_39 : decode cX10_skip 39 = .ok (.getfield 18, 3) := by decide +kernel
theorem dX10_skip_42 : decode cX10_skip 42 = .ok (.iload_n 2, 1) := by decide +kernel
theorem dX10_skip_43 : decode cX10_skip 43 = .ok (.iconst 1, 1) := by decide +kernel
theorem dX10_skip_44 : decode cX10_skip 44 = .ok (.iadd, 1) := by decide +kernel
theorem dX10_skip_45 : decode cX10_skip 45 = .ok (.iaload, 1) := by decide +kernel
theorem dX10_skip_46 : decode cX10_skip 46 = .ok (.iastore, 1) := by decide +kernel
theorem dX10_skip_47 : decode cX10_skip 47 = .ok (.iinc 2 1, 3) := by decide +kernel
theorem dX10_skip_50 : decode cX10_skip 50 = .ok (.goto (-25), 3) := by decide +kernel
theorem dX10_skip_53 : decode cX10_skip 53 = .ok (.aload_n 0, 1) := by decide +kernel
theorem dX10_skip_54 : decode cX10_skip 54 = .ok (.getfield 42, 3) := by decide +kernel
theorem dX10_skip_57 : decode cX10_skip 57 = .ok (.iload_n 1, 1) := by decide +kernel
theorem dX10_skip_58 : decode cX10_skip 58 = .ok (.if_icmp .le 13, 3) := by decide +kernel
theorem dX10_skip_61 : decode cX10_skip 61 = .ok (.aload_n 0, 1) := by decide +kernel
theorem dX10_skip_62 : decode cX10_skip 62 = .ok (.dup, 1) := by decide +kernel
theorem dX10_skip_63 : decode cX10_skip 63 = .ok (.getfield 42, 3) := by decide +kernel
theorem dX10_skip_66 : decode cX10_skip 66 = .ok (.iconst 1, 1) := by decide +kernel
theorem dX10_skip_67 : decode cX10_skip 67 = .ok (.isub, 1) := by decide +kernel
theorem dX10_skip_68 : decode cX10_skip 68 = .ok (.putfield 42, 3) := by decide +kernel
theorem dX10_skip_71 : decode cX10_skip 71 = .ok (.aload_n 0, 1) := by decide +kernel
theorem dX10_skip_72 : decode cX10_skip 72 = .ok (.getfield 42, 3) := by decide +kernel
theorem dX10_skip_75 : decode cX10_skip 75 = .ok (.aload_n 0, 1) := by decide +kernel
theorem dX10_skip_76 : decode cX10_skip 76 = .ok (.getfield 36, 3) := by decide +kernel
theorem dX10_skip_79 : decode cX10_skip 79 = .ok (.if_icmp .lt 8, 3) := by decide +kernel
theorem dX10_skip_82 : decode cX10_skip 82 = .ok (.aload_n 0, 1) := by decide +kernel
theorem dX10_skip_83 : decode cX10_skip 83 = .ok (.iconst 0, 1) := by decide +kernel
theorem dX10_skip_84 : decode cX10_skip 84 = .ok (.putfield 42, 3) := by decide +kernel
theorem dX10_skip_87 : decode cX10_skip 87 = .ok (.return_, 1) := by decide +kernel
theorem dX10_afresh_0 : decode cX10_afresh 0 = .ok (.iconst 0, 1) := by decide +kernel
theorem dX10_afresh_1 : decode cX10_afresh 1 = .ok (.istore_n 2, 1) := by decide +kernel
theorem dX10_afresh_2 : decode cX10_afresh 2 = .ok (.iload_n 2, 1) := by decide +kernel
theorem dX10_afresh_3 : decode cX10_afresh 3 = .ok (.aload_n 0, 1) := by decide +kernel
theorem dX10_afresh_4 : decode cX10_afresh 4 = .ok (.getfield 36, 3) := by decide +kernel
theorem dX10_afresh_7 : decode cX10_afresh 7 = .ok (.if_icmp .ge 24, 3) := by decide +kernel
theorem dX10_afresh_10 : decode cX10_afresh 10 = .ok (.iload_n 2, 1) := by decide +kernel
theorem dX10_afresh_11 : decode cX10_afresh 11 = .ok (.aload_n 1, 1) := by decide +kernel
theorem dX10_afresh_12 : decode cX10_afresh 12 = .ok (.arraylength, 1) := by decide +kernel
theorem dX10_afresh_13 : decode cX10_afresh 13 = .ok (.if_icmp .ge 18, 3) := by decide +kernel
theorem dX10_afresh_16 : decode cX10_afresh 16 = .ok (.aload_n 0, 1) := by decide +kernel
theorem dX10_afresh_17 : decode cX10_afresh 17 = .ok (.getfield 18, 3) := by decide +kernel
theorem dX10_afresh_20 : decode cX10_afresh 20 = .ok (.iload_n 2, 1) := by decide +kernel
theorem dX10_afresh_21 : decode cX10_afresh 21 = .ok (.aload_n 1, 1) := by decide +kernel
theorem dX10_afresh_22 : decode cX10_afresh 22 = .ok (.iload_n 2, 1) := by decide +kernel
theorem dX10_afresh_23 : decode cX10_afresh 23 = .ok (.iaload, 1) := by decide +kernel
theorem dX10_afresh_24 : decode cX10_afresh 24 = .ok (.iastore, 1) := by decide +kernel
theorem dX10_afresh_25 : decode cX10_afresh 25 = .ok (.iinc 2 1, 3) := by decide +kernel
theorem dX10_afresh_28 : decode cX10_afresh 28 = .ok (.goto (-26), 3) := by decide +kernel
theorem dX10_afresh_31 : decode cX10_afresh 31 = .ok (.aload_n 0, 1) := by decide +kernel
theorem dX10_afresh_32 : decode cX10_afresh 32 = .ok (.iconst 0, 1) := by decide +kernel
theorem dX10_afresh_33 : decode cX10_afresh 33 = .ok (.putfield 42, 3) := by decide +kernel
theorem dX10_afresh_36 : decode cX10_afresh 36 = .ok (.aload_n 0, 1) := by decide +kernel
theorem dX10_afresh_37 : decode cX10_afresh 37 = .ok (.getfield 12, 3) := by decide +kernel
theorem dX10_afresh_40 : decode cX10_afresh 40 = .ok (.iconst 0, 1) := by decide +kernel
theorem dX10_afresh_41 : decode cX10_afresh 41 = .ok (.putfield 54, 3) := by decide +kernel
theorem dX10_afresh_44 : decode cX10_afresh 44 = .ok (.aload_n 0, 1) := by decide +kernel
theorem dX10_afresh_45 : decode cX10_afresh 45 = .ok (.getfield 12, 3) := by decide +kernel
theorem dX10_afresh_48 : decode cX10_afresh 48 = .ok (.iconst 0, 1) := by decide +kernel
theorem dX10_afresh_49 : decode cX10_afresh 49 = .ok (.putfield 57, 3) := by decide +kernel
theorem dX10_afresh_52 : decode cX10_afresh 52 = .ok (.aload_n 0, 1) := by decide +kernel
theorem dX10_afresh_53 : decode cX10_afresh 53 = .ok (.getfield 12, 3) := by decide +kernel
theorem dX10_afresh_56 : decode cX10_afresh 56 = .ok (.iconst 0, 1) := by decide +kernel
theorem dX10_afresh_57 : decode cX10_afresh 57 = .ok (.putfield 60, 3) := by decide +kernel
theorem dX10_afresh_60 : decode cX10_afresh 60 = .ok (.aload_n 0, 1) := by decide +kernel
theorem dX10_afresh_61 : decode cX10_afresh 61 = .ok (.getfield 12, 3) := by decide +kernel
theorem dX10_afresh_64 : decode cX10_afresh 64 = .ok (.iconst 0, 1) := by decide +kernel
theorem dX10_afresh_65 : decode cX10_afresh 65 = .ok (.putfield 63, 3) := by decide +kernel
theorem dX10_afresh_68 : decode cX10_afresh 68 = .ok (.return_, 1) := by decide +kernel
theorem dX10_goesOn_0 : decode cX10_goesOn 0 = .ok (.aload_n 0, 1) := by decide +kernel
theorem dX10_goesOn_1 : decode cX10_goesOn 1 = .ok (.getfield 42, 3) := by decide +kernel
theorem dX10_goesOn_4 : decode cX10_goesOn 4 = .ok (.ifCond .lt 37, 3) := by decide +kernel
theorem dX10_goesOn_7 : decode cX10_goesOn 7 = .ok (.aload_n 0, 1) := by decide +kernel
theorem dX10_goesOn_8 : decode cX10_goesOn 8 = .ok (.getfield 42, 3) := by decide +kernel
theorem dX10_goesOn_11 : decode cX10_goesOn 11 = .ok (.aload_n 0, 1) := by decide +kernel
theorem dX10_goesOn_12 : decode cX10_goesOn 12 = .ok (.getfield 36, 3) := by decide +kernel
theorem dX10_goesOn_15 : decode cX10_goesOn 15 = .ok (.if_icmp .ge 26, 3) := by decide +kernel
theorem dX10_goesOn_18 : decode cX10_goesOn 18 = .ok (.aload_n 0, 1) := by decide +kernel
theorem dX10_goesOn_19 : decode cX10_goesOn 19 = .ok (.getfield 36, 3) := by decide +kernel
theorem dX10_goesOn_22 : decode cX10_goesOn 22 = .ok (.bipush 7, 2) := by decide +kernel
theorem dX10_goesOn_24 : decode cX10_goesOn 24 = .ok (.if_icmp .gt 17, 3) := by decide +kernel
theorem dX10_goesOn_27 : decode cX10_goesOn 27 = .ok (.aload_n 0, 1) := by decide +kernel
theorem dX10_goesOn_28 : decode cX10_goesOn 28 = .ok (.getfield 12, 3) := by decide +kernel
theorem dX10_goesOn_31 : decode cX10_goesOn 31 = .ok (.invokevirtual 66, 3) := by decide +kernel
theorem dX10_goesOn_34 : decode cX10_goesOn 34 = .ok (.ifCond .ne 7, 3) := by decide +kernel
theorem dX10_goesOn_37 : decode cX10_goesOn 37 = .ok (.iconst 1, 1) := by decide +kernel
theorem dX10_goesOn_38 : decode cX10_goesOn 38 = .ok (.goto 4, 3) := by decide +kernel
theorem dX10_goesOn_41 : decode cX10_goesOn 41 = .ok (.iconst 0, 1) := by decide +kernel
theorem dX10_goesOn_42 : decode cX10_goesOn 42 = .ok (.ireturn, 1) := by decide +kernel
theorem dX10_step_0 : decode cX10_step 0 = .ok (.aload_n 1, 1) := by decide +kernel
theorem dX10_step_1 : decode cX10_step 1 = .ok (.ifnull 10, 3) := by decide +kernel
theorem dX10_step_4 : decode cX10_step 4 = .ok (.aload_n 0, 1) := by decide +kernel
theorem dX10_step_5 : decode cX10_step 5 = .ok (.invokevirtual 70, 3) := by decide +kernel
theorem dX10_step_8 : decode cX10_step 8 = .ok (.ifCond .ne 5, 3) := by decide +kernel
theorem dX10_step_11 : decode cX10_step 11 = .ok (.iconst 0, 1) := by decide +kernel
theorem dX10_step_12 : decode cX10_step 12 = .ok (.ireturn, 1) := by decide +kernel
theorem dX10_step_13 : decode cX10_step 13 = .ok (.aload_n 0, 1) := by decide +kernel
theorem dX10_step_14 : decode cX10_step 14 = .ok (.getfield 18, 3) := by decide +kernel
theorem dX10_step_17 : decode cX10_step 17 = .ok (.aload_n 0, 1) := by decide +kernel
theorem dX10_step_18 : decode cX10_step 18 = .ok (.getfield 42, 3) := by decide +kernel
theorem dX10_step_21 : decode cX10_step 21 = .ok (.iaload, 1) := by decide +kernel
theorem dX10_step_22 : decode cX10_step 22 = .ok (.istore_n 2, 1) := by decide +kernel
theorem dX10_step_23 : decode cX10_step 23 = .ok (.aload_n 0, 1) := by decide +kernel
theorem dX10_step_24 : decode cX10_step 24 = .ok (.getfield 45, 3) := by decide +kernel
theorem dX10_step_27 : decode cX10_step 27 = .ok (.ifCond .le 19, 3) := by decide +kernel
theorem dX10_step_30 : decode cX10_step 30 = .ok (.aload_n 1, 1) := by decide +kernel
theorem dX10_step_31 : decode cX10_step 31 = .ok (.aload_n 0, 1) := by decide +kernel
theorem dX10_step_32 : decode cX10_step 32 = .ok (.getfield 12, 3) := by decide +kernel
theorem dX10_step_35 : decode cX10_step 35 = .ok (.iload_n 2, 1) := by decide +kernel
theorem dX10_step_36 : decode cX10_step 36 = .ok (.invokevirtual 74, 3) := by decide +kernel
theorem dX10_step_39 : decode cX10_step 39 = .ok (.ifCond .eq 7, 3) := by decide +kernel
theorem dX10_step_42 : decode cX10_step 42 = .ok (.iconst 1, 1) := by decide +kernel
theorem dX10_step_43 : decode cX10_step 43 = .ok (.goto 4, 3) := by decide +kernel
theorem dX10_step_46 : decode cX10_step 46 = .ok (.iconst 0, 1) := by decide +kernel
theorem dX10_step_47 : decode cX10_step 47 = .ok (.istore_n 3, 1) := by decide +kernel
theorem dX10_step_48 : decode cX10_step 48 = .ok (.aload_n 0, 1) := by decide +kernel
theorem dX10_step_49 : decode cX10_step 49 = .ok (.getfield 12, 3) := by decide +kernel
theorem dX10_step_52 : decode cX10_step 52 = .ok (.aload_n 1, 1) := by decide +kernel
theorem dX10_step_53 : decode cX10_step 53 = .ok (.iload_n 2, 1) := by decide +kernel
theorem dX10_step_54 : decode cX10_step 54 = .ok (.iload_n 3, 1) := by decide +kernel
theorem dX10_step_55 : decode cX10_step 55 = .ok (.invokevirtual 80, 3) := by decide +kernel
theorem dX10_step_58 : decode cX10_step 58 = .ok (.aload_n 0, 1) := by decide +kernel
theorem dX10_step_59 : decode cX10_step 59 = .ok (.aload_n 0, 1) := by decide +kernel
theorem dX10_step_60 : decode cX10_step 60 = .ok (.getfield 42, 3) := by decide +kernel
theorem dX10_step_63 : decode cX10_step 63 = .ok (.iconst 1, 1) := by decide +kernel
theorem dX10_step_64 : decode cX10_step 64 = .ok (.iadd, 1) := by decide +kernel
theorem dX10_step_65 : decode cX10_step 65 = .ok (.aload_n 0, 1) := by decide +kernel
theorem dX10_step_66 : decode cX10_step 66 = .ok (.getfield 36, 3) := by decide +kernel
theorem dX10_step_69 : decode cX10_step 69 = .ok (.if_icmp .ge 12, 3) := by decide +kernel
theorem dX10_step_72 : decode cX10_step 72 = .ok (.aload_n 0, 1) := by decide +kernel
theorem dX10_step_73 : decode cX10_step 73 = .ok (.getfield 42, 3) := by decide +kernel
theorem dX10_step_76 : decode cX10_step 76 = .ok (.iconst 1, 1) := by decide +kernel
theorem dX10_step_77 : decode cX10_step 77 = .ok (.iadd, 1) := by decide +kernel
theorem dX10_step_78 : decode cX10_step 78 = .ok (.goto 4, 3) := by decide +kernel
theorem dX10_step_81 : decode cX10_step 81 = .ok (.iconst 0, 1) := by decide +kernel
theorem dX10_step_82 : decode cX10_step 82 = .ok (.putfield 42, 3) := by decide +kernel
theorem dX10_step_85 : decode cX10_step 85 = .ok (.aload_n 0, 1) := by decide +kernel
theorem dX10_step_86 : decode cX10_step 86 = .ok (.dup, 1) := by decide +kernel
theorem dX10_step_87 : decode cX10_step 87 = .ok (.getfield 48, 3) := by decide +kernel
theorem dX10_step_90 : decode cX10_step 90 = .ok (.iconst 1, 1) := by decide +kernel
theorem dX10_step_91 : decode cX10_step 91 = .ok (.iadd, 1) := by decide +kernel
theorem dX10_step_92 : decode cX10_step 92 = .ok (.putfield 48, 3) := by decide +kernel
theorem dX10_step_95 : decode cX10_step 95 = .ok (.iload_n 3, 1) := by decide +kernel
theorem dX10_step_96 : decode cX10_step 96 = .ok (.ifCond .eq 42, 3) := by decide +kernel
theorem dX10_step_99 : decode cX10_step 99 = .ok (.aload_n 0, 1) := by decide +kernel
theorem dX10_step_100 : decode cX10_step 100 = .ok (.getfield 12, 3) := by decide +kernel
theorem dX10_step_103 : decode cX10_step 103 = .ok (.iload_n 2, 1) := by decide +kernel
theorem dX10_step_104 : decode cX10_step 104 = .ok (.invokevirtual 84, 3) := by decide +kernel
theorem dX10_step_107 : decode cX10_step 107 = .ok (.ifCond .eq 31, 3) := by decide +kernel
theorem dX10_step_110 : decode cX10_step 110 = .ok (.aload_n 0, 1) := by decide +kernel
theorem dX10_step_111 : decode cX10_step 111 = .ok (.dup, 1) := by decide +kernel
theorem dX10_step_112 : decode cX10_step 112 = .ok (.getfield 45, 3) := by decide +kernel
theorem dX10_step_115 : decode cX10_step 115 = .ok (.iconst 1, 1) := by decide +kernel
theorem dX10_step_116 : decode cX10_step 116 = .ok (.isub, 1) := by decide +kernel
theorem dX10_step_117 : decode cX10_step 117 = .ok (.putfield 45, 3) := by decide +kernel
theorem dX10_step_120 : decode cX10_step 120 = .ok (.aload_n 0, 1) := by decide +kernel
theorem dX10_step_121 : decode cX10_step 121 = .ok (.dup, 1) := by decide +kernel
theorem dX10_step_122 : decode cX10_step 122 = .ok (.getfield 51, 3) := by decide +kernel
theorem dX10_step_125 : decode cX10_step 125 = .ok (.aload_n 0, 1) := by decide +kernel
theorem dX10_step_126 : decode cX10_step 126 = .ok (.getfield 12, 3) := by decide +kernel
theorem dX10_step_129 : decode cX10_step 129 = .ok (.getfield 88, 3) := by decide +kernel
theorem dX10_step_132 : decode cX10_step 132 = .ok (.iload_n 2, 1) := by decide +kernel
theorem dX10_step_133 : decode cX10_step 133 = .ok (.iaload, 1) := by decide +kernel
theorem dX10_step_134 : decode cX10_step 134 = .ok (.iadd, 1) := by decide +kernel
theorem dX10_step_135 : decode cX10_step 135 = .ok (.putfield 51, 3) := by decide +kernel
theorem dX10_step_138 : decode cX10_step 138 = .ok (.iload_n 3, 1) := by decide +kernel
theorem dX10_step_139 : decode cX10_step 139 = .ok (.ireturn, 1) := by decide +kernel
theorem dX10_run_0 : decode cX10_run 0 = .ok (.iconst 0, 1) := by decide +kernel
theorem dX10_run_1 : decode cX10_run 1 = .ok (.istore 4, 2) := by decide +kernel
theorem dX10_run_3 : decode cX10_run 3 = .ok (.iload 4, 2) := by decide +kernel
theorem dX10_run_5 : decode cX10_run 5 = .ok (.iload_n 3, 1) := by decide +kernel
theorem dX10_run_6 : decode cX10_run 6 = .ok (.if_icmp .ge 33, 3) := by decide +kernel
theorem dX10_run_9 : decode cX10_run 9 = .ok (.aload_n 0, 1) := by decide +kernel
theorem dX10_run_10 : decode cX10_run 10 = .ok (.invokevirtual 70, 3) := by decide +kernel
theorem dX10_run_13 : decode cX10_run 13 = .ok (.ifCond .eq 26, 3) := by decide +kernel
theorem dX10_run_16 : decode cX10_run 16 = .ok (.aload_n 0, 1) := by decide +kernel
theorem dX10_run_17 : decode cX10_run 17 = .ok (.iload 4, 2) := by decide +kernel
theorem dX10_run_19 : decode cX10_run 19 = .ok (.iconst 2, 1) := by decide +kernel
theorem dX10_run_20 : decode cX10_run 20 = .ok (.irem, 1) := by decide +kernel
theorem dX10_run_21 : decode cX10_run 21 = .ok (.ifCond .ne 7, 3) := by decide +kernel
theorem dX10_run_24 : decode cX10_run 24 = .ok (.aload_n 1, 1) := by decide +kernel
theorem dX10_run_25 : decode cX10_run 25 = .ok (.goto 4, 3) := by decide +kernel
theorem dX10_run_28 : decode cX10_run 28 = .ok (.aload_n 2, 1) := by decide +kernel
theorem dX10_run_29 : decode cX10_run 29 = .ok (.invokevirtual 90, 3) := by decide +kernel
theorem dX10_run_32 : decode cX10_run 32 = .ok (.pop, 1) := by decide +kernel
theorem dX10_run_33 : decode cX10_run 33 = .ok (.iinc 4 1, 3) := by decide +kernel
theorem dX10_run_36 : decode cX10_run 36 = .ok (.goto (-33), 3) := by decide +kernel
theorem dX10_run_39 : decode cX10_run 39 = .ok (.return_, 1) := by decide +kernel
theorem dX10_sleepsAt_0 : decode cX10_sleepsAt 0 = .ok (.aload_n 0, 1) := by decide +kernel
theorem dX10_sleepsAt_1 : decode cX10_sleepsAt 1 = .ok (.aload_n 1, 1) := by decide +kernel
theorem dX10_sleepsAt_2 : decode cX10_sleepsAt 2 = .ok (.aload_n 2, 1) := by decide +kernel
theorem dX10_sleepsAt_3 : decode cX10_sleepsAt 3 = .ok (.bipush 60, 2) := by decide +kernel
theorem dX10_sleepsAt_5 : decode cX10_sleepsAt 5 = .ok (.invokevirtual 94, 3) := by decide +kernel
theorem dX10_sleepsAt_8 : decode cX10_sleepsAt 8 = .ok (.aload_n 0, 1) := by decide +kernel
theorem dX10_sleepsAt_9 : decode cX10_sleepsAt 9 = .ok (.getfield 12, 3) := by decide +kernel
theorem dX10_sleepsAt_12 : decode cX10_sleepsAt 12 = .ok (.invokevirtual 66, 3) := by decide +kernel
theorem dX10_sleepsAt_15 : decode cX10_sleepsAt 15 = .ok (.iconst 1, 1) := by decide +kernel
theorem dX10_sleepsAt_16 : decode cX10_sleepsAt 16 = .ok (.if_icmp .ne 13, 3) := by decide +kernel
theorem dX10_sleepsAt_19 : decode cX10_sleepsAt 19 = .ok (.aload_n 0, 1) := by decide +kernel
theorem dX10_sleepsAt_20 : decode cX10_sleepsAt 20 = .ok (.getfield 12, 3) := by decide +kernel
theorem dX10_sleepsAt_23 : decode cX10_sleepsAt 23 = .ok (.getfield 54, 3) := by decide +kernel
theorem dX10_sleepsAt_26 : decode cX10_sleepsAt 26 = .ok (.goto 5, 3) := by decide +kernel
theorem dX10_sleepsAt_29 : decode cX10_sleepsAt 29 = .ok (.bipush (-5), 2) := by decide +kernel
theorem dX10_sleepsAt_31 : decode cX10_sleepsAt 31 = .ok (.ireturn, 1) := by decide +kernel
theorem dX11_init_0 : decode cX11_init 0 = .ok (.aload_n 0, 1) := by decide +kernel
theorem dX11_init_1 : decode cX11_init 1 = .ok (.invokespecial 3, 3) := by decide +kernel
theorem dX11_init_4 : decode cX11_init 4 = .ok (.aload_n 0, 1) := by decide +kernel
theorem dX11_init_5 : decode cX11_init 5 = .ok (.new 9, 3) := by decide +kernel
theorem dX11_init_8 : decode cX11_init 8 = .ok (.dup, 1) := by decide +kernel
theorem dX11_init_9 : decode cX11_init 9 = .ok (.invokespecial 11, 3) := by decide +kernel
theorem dX11_init_12 : decode cX11_init 12 = .ok (.putfield 12, 3) := by decide +kernel
theorem dX11_init_15 : decode cX11_init 15 = .ok (.aload_n 0, 1) := by decide +kernel
theorem dX11_init_16 : decode cX11_init 16 = .ok (.new 9, 3) := by decide +kernel
theorem dX11_init_19 : decode cX11_init 19 = .ok (.dup, 1) := by decide +kernel
theorem dX11_init_20 : decode cX11_init 20 = .ok (.invokespecial 11, 3) := by decide +kernel
theorem dX11_init_23 : decode cX11_init 23 = .ok (.putfield 18, 3) := by decide +kernel
theorem dX11_init_26 : decode cX11_init 26 = .ok (.aload_n 0, 1) := by decide +kernel
theorem dX11_init_27 : decode cX11_init 27 = .ok (.new 21, 3) := by decide +kernel
theorem dX11_init_30 : decode cX11_init 30 = .ok (.dup, 1) := by decide +kernel
theorem dX11_init_31 : decode cX11_init 31 = .ok (.invokespecial 23, 3) := by decide +kernel
theorem dX11_init_34 : decode cX11_init 34 = .ok (.putfield 24, 3) := by decide +kernel
theorem dX11_init_37 : decode cX11_init 37 = .ok (.aload_n 0, 1) := by decide +kernel
theorem dX11_init_38 : decode cX11_init 38 = .ok (.new 28, 3) := by decide +kernel
theorem dX11_init_41 : decode cX11_init 41 = .ok (.dup, 1) := by decide +kernel
theorem dX11_init_42 : decode cX11_init 42 = .ok (.invokespecial 30, 3) := by decide +kernel
theorem dX11_init_45 : decode cX11_init 45 = .ok (.putfield 31, 3) := by decide +kernel
theorem dX11_init_48 : decode cX11_init 48 = .ok (.aload_n 0, 1) := by decide +kernel
theorem dX11_init_49 : decode cX11_init 49 = .ok (.bipush 6, 2) := by decide +kernel
theorem dX11_init_51 : decode cX11_init 51 = .ok (.bipush 60, 2) := by decide +kernel
theorem dX11_init_53 : decode cX11_init 53 = .ok (.multianewarray 35 2, 4) := by decide +kernel
theorem dX11_init_57 : decode cX11_init 57 = .ok (.putfield 37, 3) := by decide +kernel
theorem dX11_init_60 : decode cX11_init 60 = .ok (.aload_n 0, 1) := by decide +kernel
theorem dX11_init_61 : decode cX11_init 61 = .ok (.bipush 6, 2) := by decide +kernel
theorem dX11_init_63 : decode cX11_init 63 = .ok (.newarray .int, 2) := by decide +kernel
theorem dX11_init_65 : decode cX11_init 65 = .ok (.putfield 40, 3) := by decide +kernel
theorem dX11_init_68 : decode cX11_init 68 = .ok (.aload_n 0, 1) := by decide +kernel
theorem dX11_init_69 : decode cX11_init 69 = .ok (.bipush 6, 2) := by decide +kernel
theorem dX11_init_71 : decode cX11_init 71 = .ok (.newarray .int, 2) := by decide +kernel
theorem dX11_init_73 : decode cX11_init 73 = .ok (.putfield 44, 3) := by decide +kernel
theorem dX11_init_76 : decode cX11_init 76 = .ok (.iconst 0, 1) := by decide +kernel
theorem dX11_init_77 : decode cX11_init 77 = .ok (.istore_n 1, 1) := by decide +kernel
theorem dX11_init_78 : decode cX11_init 78 = .ok (.iload_n 1, 1) := by decide +kernel
theorem dX11_init_79 : decode cX11_init 79 = .ok (.bipush 6, 2) := by decide +kernel
theorem dX11_init_81 : decode cX11_init 81 = .ok (.if_icmp .ge 16, 3) := by decide +kernel
theorem dX11_init_84 : decode cX11_init 84 = .ok (.aload_n 0, 1) := by decide +kernel
theorem dX11_init_85 : decode cX11_init 85 = .ok (.getfield 40, 3) := by decide +kernel
theorem dX11_init_88 : decode cX11_init 88 = .ok (.iload_n 1, 1) := by decide +kernel
theorem dX11_init_89 : decode cX11_init 89 = .ok (.iconst (-1), 1) := by decide +kernel
theorem dX11_init_90 : decode cX11_init 90 = .ok (.iastore, 1) := by decide +kernel
theorem dX11_init_91 : decode cX11_init 91 = .ok (.iinc 1 1, 3) := by decide +kernel
theorem dX11_init_94 : decode cX11_init 94 = .ok (.goto (-16), 3) := by decide +kernel
theorem dX11_init_97 : decode cX11_init 97 = .ok (.aload_n 0, 1) := by decide +kernel
theorem dX11_init_98 : decode cX11_init 98 = .ok (.bipush 21, 2) := by decide +kernel
theorem dX11_init_100 : decode cX11_init 100 = .ok (.newarray .int, 2) := by decide +kernel
theorem dX11_init_102 : decode cX11_init 102 = .ok (.putfield 47, 3) := by decide +kernel
theorem dX11_init_105 : decode cX11_init 105 = .ok (.aload_n 0, 1) := by decide +kernel
theorem dX11_init_106 : decode cX11_init 106 = .ok (.iconst 5, 1) := by decide +kernel
theorem dX11_init_107 : decode cX11_init 107 = .ok (.newarray .int, 2) := by decide +kernel
theorem dX11_init_109 : decode cX11_init 109 = .ok (.putfield 50, 3) := by decide +kernel
theorem dX11_init_112 : decode cX11_init 112 = .ok (.aload_n 0, 1) := by decide +kernel
theorem dX11_init_113 : decode cX11_init 113 = .ok (.iconst 5, 1) := by decide +kernel
theorem dX11_init_114 : decode cX11_init 114 = .ok (.newarray .int, 2) := by decide +kernel
theorem dX11_init_116 : decode cX11_init 116 = .ok (.putfield 53, 3) := by decide +kernel
theorem dX11_init_119 : decode cX11_init 119 = .ok (.return_, 1) := by decide +kernel
theorem dX11_thing_0 : decode cX11_thing 0 = .ok (.iload_n 1, 1) := by decide +kernel
theorem dX11_thing_1 : decode cX11_thing 1 = .ok (.iconst 1, 1) := by decide +kernel
theorem dX11_thing_2 : decode cX11_thing 2 = .ok (.if_icmp .lt 19, 3) := by decide +kernel
theorem dX11_thing_5 : decode cX11_thing 5 = .ok (.iload_n 1, 1) := by decide +kernel
theorem dX11_thing_6 : decode cX11_thing 6 = .ok (.bipush 20, 2) := by decide +kernel
theorem dX11_thing_8 : decode cX11_thing 8 = .ok (.if_icmp .gt 13, 3) := by decide +kernel
theorem dX11_thing_11 : decode cX11_thing 11 = .ok (.iload_n 2, 1) := by decide +kernel
theorem dX11_thing_12 : decode cX11_thing 12 = .ok (.ifCond .lt 9, 3) := by decide +kernel
theorem dX11_thing_15 : decode cX11_thing 15 = .ok (.iload_n 2, 1) := by decide +kernel
theorem dX11_thing_16 : decode cX11_thing 16 = .ok (.bipush 9, 2) := by decide +kernel
theorem dX11_thing_18 : decode cX11_thing 18 = .ok (.if_icmp .le 6, 3) := by decide +kernel
theorem dX11_thing_21 : decode cX11_thing 21 = .ok (.bipush (-2), 2) := by decide +kernel
theorem dX11_thing_23 : decode cX11_thing 23 = .ok (.ireturn, 1) := by decide +kernel
theorem dX11_thing_24 : decode cX11_thing 24 = .ok (.aload_n 0, 1) := by decide +kernel
theorem dX11_thing_25 : decode cX11_thing 25 = .ok (.getfield 12, 3) := by decide +kernel
theorem dX11_thing_28 : decode cX11_thing 28 = .ok (.getfield 56, 3) := by decide +kernel
theorem dX11_thing_31 : decode cX11_thing 31 = .ok (.bipush 7, 2) := by decide +kernel
theorem dX11_thing_33 : decode cX11_thing 33 = .ok (.if_icmp .lt 6, 3) := by decide +kernel
theorem dX11_thing_36 : decode cX11_thing 36 = .ok (.bipush (-4), 2) := by decide +kernel
theorem dX11_thing_38 : decode cX11_thing 38 = .ok (.ireturn, 1) := by decide +kernel
theorem dX11_thing_39 : decode cX11_thing 39 = .ok (.aload_n 0, 1) := by decide +kernel
theorem dX11_thing_40 : decode cX11_thing 40 = .ok (.getfield 12, 3) := by decide +kernel
theorem dX11_thing_43 : decode cX11_thing 43 = .ok (.dup, 1) := by decide +kernel
theorem dX11_thing_44 : decode cX11_thing 44 = .ok (.getfield 56, 3) := by decide +kernel
theorem dX11_thing_47 : decode cX11_thing 47 = .ok (.dup_x1, 1) := by decide +kernel
theorem dX11_thing_48 : decode cX11_thing 48 = .ok (.iconst 1, 1) := by decide +kernel
theorem dX11_thing_49 : decode cX11_thing 49 = .ok (.iadd, 1) := by decide +kernel
theorem dX11_thing_50 : decode cX11_thing 50 = .ok (.putfield 56, 3) := by decide +kernel
theorem dX11_thing_53 : decode cX11_thing 53 = .ok (.istore_n 3, 1) := by decide +kernel
theorem dX11_thing_54 : decode cX11_thing 54 = .ok (.aload_n 0, 1) := by decide +kernel
theorem dX11_thing_55 : decode cX11_thing 55 = .ok (.getfield 12, 3) := by decide +kernel
theorem dX11_thing_58 : decode cX11_thing 58 = .ok (.getfield 60, 3) := by decide +kernel
theorem dX11_thing_61 : decode cX11_thing 61 = .ok (.iload_n 3, 1) := by decide +kernel
theorem dX11_thing_62 : decode cX11_thing 62 = .ok (.iload_n 1, 1) := by decide +kernel
theorem dX11_thing_63 : decode cX11_thing 63 = .ok (.iastore, 1) := by decide +kernel
theorem dX11_thing_64 : decode cX11_thing 64 = .ok (.aload_n 0, 1) := by decide +kernel
theorem dX11_thing_65 : decode cX11_thing 65 = .ok (.getfield 12, 3) := by decide +kernel
theorem dX11_thing_68 : decode cX11_thing 68 = .ok (.getfield 63, 3) := by decide +kernel
theorem dX11_thing_71 : decode cX11_thing 71 = .ok (.iload_n 3, 1) := by decide +kernel
theorem dX11_thing_72 : decode cX11_thing 72 = .ok (.iload_n 2, 1) := by decide +kernel
theorem dX11_thing_73 : decode cX11_thing 73 = .ok (.iastore, 1) := by decide +kernel
theorem dX11_thing_74 : decode cX11_thing 74 = .ok (.aload_n 0, 1) := by decide +kernel
theorem dX11_thing_75 : decode cX11_thing 75 = .ok (.getfield 12, 3) := by decide +kernel
theorem dX11_thing_78 : decode cX11_thing 78 = .ok (.getfield 66, 3) := by decide +kernel
theorem dX11_thing_81 : decode cX11_thing 81 = .ok (.iload_n 3, 1) := by decide +kernel
theorem dX11_thing_82 : decode cX11_thing 82 = .ok (.iconst 0, 1) := by decide +kernel
theorem dX11_thing_83 : decode cX11_thing 83 = .ok (.iastore, 1) := by decide +kernel
theorem dX11_thing_84 : decode cX11_thing 84 = .ok (.iload_n 3, 1) := by decide +kernel
theorem dX11_thing_85 : decode cX11_thing 85 = .ok (.ireturn, 1) := by decide +kernel
theorem dX11_parent_0 : decode cX11_parent 0 = .ok (.iload_n 1, 1) := by decide +kernel
theorem dX11_parent_1 : decode cX11_parent 1 = .ok (.ifCond .lt 9, 3) := by decide +kernel
theorem dX11_parent_4 : decode cX11_parent 4 = .ok (.iload_n 1, 1) := by decide +kernel
theorem dX11_parent_5 : decode cX11_parent 5 = .ok (.bipush 7, 2) := by decide +kernel
theorem dX11_parent_7 : decode cX11_parent 7 = .ok (.if_icmp .lt 5, 3) := by decide +kernel
theorem dX11_parent_10 : decode cX11_parent 10 = .ok (.iconst (-1), 1) := by decide +kernel
theorem dX11_parent_11 : decode cX11_parent 11 = .ok (.ireturn, 1) := by decide +kernel
theorem dX11_parent_12 : decode cX11_parent 12 = .ok (.iload_n 2, 1) := by decide +kernel
theorem dX11_parent_13 : decode cX11_parent 13 = .ok (.ifCond .lt 9, 3) := by decide +kernel
theorem dX11_parent_16 : decode cX11_parent 16 = .ok (.iload_n 2, 1) := by decide +kernel
theorem dX11_parent_17 : decode cX11_parent 17 = .ok (.bipush 9, 2) := by decide +kernel
theorem dX11_parent_19 : decode cX11_parent 19 = .ok (.if_icmp .le 6, 3) := by decide +kernel
theorem dX11_parent_22 : decode cX11_parent 22 = .ok (.bipush (-2), 2) := by decide +kernel
theorem dX11_parent_24 : decode cX11_parent 24 = .ok (.ireturn, 1) := by decide +kernel
theorem dX11_parent_25 : decode cX11_parent 25 = .ok (.aload_n 0, 1) := by decide +kernel
theorem dX11_parent_26 : decode cX11_parent 26 = .ok (.getfield 12, 3) := by decide +kernel
theorem dX11_parent_29 : decode cX11_parent 29 = .ok (.getfield 69, 3) := by decide +kernel
theorem dX11_parent_32 : decode cX11_parent 32 = .ok (.iconst 4, 1) := by decide +kernel
theorem dX11_parent_33 : decode cX11_parent 33 = .ok (.if_icmp .lt 6, 3) := by decide +kernel
theorem dX11_parent_36 : decode cX11_parent 36 = .ok (.bipush (-4), 2) := by decide +kernel
theorem dX11_parent_38 : decode cX11_parent 38 = .ok (.ireturn, 1) := by decide +kernel
theorem dX11_parent_39 : decode cX11_parent 39 = .ok (.aload_n 0, 1) := by decide +kernel
theorem dX11_parent_40 : decode cX11_parent 40 = .ok (.getfield 12, 3) := by decide +kernel
theorem dX11_parent_43 : decode cX11_parent 43 = .ok (.dup, 1) := by decide +kernel
theorem dX11_parent_44 : decode cX11_parent 44 = .ok (.getfield 69, 3) := by decide +kernel
theorem dX11_parent_47 : decode cX11_parent 47 = .ok (.dup_x1, 1) := by decide +kernel
theorem dX11_parent_48 : decode cX11_parent 48 = .ok (.iconst 1, 1) := by decide +kernel
theorem dX11_parent_49 : decode cX11_parent 49 = .ok (.iadd, 1) := by decide +kernel
theorem dX11_parent_50 : decode cX11_parent 50 = .ok (.putfield 69, 3) := by decide +kernel
theorem dX11_parent_53 : decode cX11_parent 53 = .ok (.istore_n 3, 1) := by decide +kernel
theorem dX11_parent_54 : decode cX11_parent 54 = .ok (.aload_n 0, 1) := by decide +kernel
theorem dX11_parent_55 : decode cX11_parent 55 = .ok (.getfield 12, 3) := by decide +kernel
theorem dX11_parent_58 : decode cX11_parent 58 = .ok (.getfield 72, 3) := by decide +kernel
theorem dX11_parent_61 : decode cX11_parent 61 = .ok (.iload_n 3, 1) := by decide +kernel
theorem dX11_parent_62 : decode cX11_parent 62 = .ok (.aload_n 0, 1) := by decide +kernel
theorem dX11_parent_63 : decode cX11_parent 63 = .ok (.iload_n 1, 1) := by decide +kernel
theorem dX11_parent_64 : decode cX11_parent 64 = .ok (.iload_n 3, 1) := by decide +kernel
theorem dX11_parent_65 : decode cX11_parent 65 = .ok (.iload_n 2, 1) := by decide +kernel
theorem dX11_parent_66 : decode cX11_parent 66 = .ok (.invokevirtual 76, 3) := by decide +kernel
theorem dX11_parent_69 : decode cX11_parent 69 = .ok (.aastore, 1) := by decide +kernel
theorem dX11_parent_70 : decode cX11_parent 70 = .ok (.iconst 0, 1) := by decide +kernel
theorem dX11_parent_71 : decode cX11_parent 71 = .ok (.istore 4, 2) := by decide +kernel
theorem dX11_parent_73 : decode cX11_parent 73 = .ok (.iload 4, 2) := by decide +kernel
theorem dX11_parent_75 : decode cX11_parent 75 = .ok (.iconst 4, 1) := by decide +kernel
theorem dX11_parent_76 : decode cX11_parent 76 = .ok (.if_icmp .ge 24, 3) := by decide +kernel
theorem dX11_parent_79 : decode cX11_parent 79 = .ok (.aload_n 0, 1) := by decide +kernel
theorem dX11_parent_80 : decode cX11_parent 80 = .ok (.getfield 12, 3) := by decide +kernel
theorem dX11_parent_83 : decode cX11_parent 83 = .ok (.getfield 80, 3) := by decide +kernel
theorem dX11_parent_86 : decode cX11_parent 86 = .ok (.iconst 4, 1) := by decide +kernel
theorem dX11_parent_87 : decode cX11_parent 87 = .ok (.iload_n 3, 1) := by decide +kernel
theorem dX11_parent_88 : decode cX11_parent 88 = .ok (.imul, 1) := by decide +kernel
theorem dX11_parent_89 : decode cX11_parent 89 = .ok (.iload 4, 2) := by decide +kernel
theorem dX11_parent_91 : decode cX11_parent 91 = .ok (.iadd, 1) := by decide +kernel
theorem dX11_parent_92 : decode cX11_parent 92 = .ok (.iconst 1, 1) := by decide +kernel
theorem dX11_parent_93 : decode cX11_parent 93 = .ok (.iastore, 1) := by decide +kernel
theorem dX11_parent_94 : decode cX11_parent 94 = .ok (.iinc 4 1, 3) := by decide +kernel
theorem dX11_parent_97 : decode cX11_parent 97 = .ok (.goto (-24), 3) := by decide +kernel
theorem dX11_parent_100 : decode cX11_parent 100 = .ok (.iload_n 3, 1) := by decide +kernel
theorem dX11_parent_101 : decode cX11_parent 101 = .ok (.ireturn, 1) := by decide +kernel
theorem dX11_born_0 : decode cX11_born 0 = .ok (.iload_n 1, 1) := by decide +kernel
theorem dX11_born_1 : decode cX11_born 1 = .ok (.tableswitch 129 1 6 #[39, 54, 69, 84, 99, 114], 39) := by decide +kernel
theorem dX11_born_40 : decode cX11_born 40 = .ok (.new 83, 3) := by decide +kernel
theorem dX11_born_43 : decode cX11_born 43 = .ok (.dup, 1) := by decide +kernel
theorem dX11_born_44 : decode cX11_born 44 = .ok (.iload_n 1, 1) := by decide +kernel
theorem dX11_born_45 : decode cX11_born 45 = .ok (.iload_n 2, 1) := by decide +kernel
theorem dX11_born_46 : decode cX11_born 46 = .ok (.iload_n 3, 1) := by decide +kernel
theorem dX11_born_47 : decode cX11_born 47 = .ok (.aload_n 0, 1) := by decide +kernel
theorem dX11_born_48 : decode cX11_born 48 = .ok (.getfield 47, 3) := by decide +kernel
theorem dX11_born_51 : decode cX11_born 51 = .ok (.invokespecial 85, 3) := by decide +kernel
theorem dX11_born_54 : decode cX11_born 54 = .ok (.areturn, 1) := by decide +kernel
theorem dX11_born_55 : decode cX11_born 55 = .ok (.new 88, 3) := by decide +kernel
theorem dX11_born_58 : decode cX11_born 58 = .ok (.dup, 1) := by decide +kernel
theorem dX11_born_59 : decode cX11_born 59 = .ok (.iload_n 1, 1) := by decide +kernel
theorem dX11_born_60 : decode cX11_born 60 = .ok (.iload_n 2, 1) := by decide +kernel
theorem dX11_born_61 : decode cX11_born 61 = .ok (.iload_n 3, 1) := by decide +kernel
theorem dX11_born_62 : decode cX11_born 62 = .ok (.aload_n 0, 1) := by decide +kernel
theorem dX11_born_63 : decode cX11_born 63 = .ok (.getfield 47, 3) := by decide +kernel
theorem dX11_born_66 : decode cX11_born 66 = .ok (.invokespecial 90, 3) := by decide +kernel
theorem dX11_born_69 : decode cX11_born 69 = .ok (.areturn, 1) := by decide +kernel
theorem dX11_born_70 : decode cX11_born 70 = .ok (.new 91, 3) := by decide +kernel
theorem dX11_born_73 : decode cX11_born 73 = .ok (.dup, 1) := by decide +kernel
theorem dX11_born_74 : decode cX11_born 74 = .ok (.iload_n 1, 1) := by decide +kernel
theorem dX11_born_75 : decode cX11_born 75 = .ok (.iload_n 2, 1) := by decide +kernel
theorem dX11_born_76 : decode cX11_born 76 = .ok (.iload_n 3, 1) := by decide +kernel
theorem dX11_born_77 : decode cX11_born 77 = .ok (.aload_n 0, 1) := by decide +kernel
theorem dX11_born_78 : decode cX11_born 78 = .ok (.getfield 47, 3) := by decide +kernel
theorem dX11_born_81 : decode cX11_born 81 = .ok (.invokespecial 93, 3) := by decide +kernel
theorem dX11_born_84 : decode cX11_born 84 = .ok (.areturn, 1) := by decide +kernel
theorem dX11_born_85 : decode cX11_born 85 = .ok (.new 94, 3) := by decide +kernel
theorem dX11_born_88 : decode cX11_born 88 = .ok (.dup, 1) := by decide +kernel
theorem dX11_born_89 : decode cX11_born 89 = .ok (.iload_n 1, 1) := by decide +kernel
theorem dX11_born_90 : decode cX11_born 90 = .ok (.iload_n 2, 1) := by decide +kernel
theorem dX11_born_91 : decode cX11_born 91 = .ok (.iload_n 3, 1) := by decide +kernel
theorem dX11_born_92 : decode cX11_born 92 = .ok (.aload_n 0, 1) := by decide +kernel
theorem dX11_born_93 : decode cX11_born 93 = .ok (.getfield 47, 3) := by decide +kernel
theorem dX11_born_96 : decode cX11_born 96 = .ok (.invokespecial 96, 3) := by decide +kernel
theorem dX11_born_99 : decode cX11_born 99 = .ok (.areturn, 1) := by decide +kernel
theorem dX11_born_100 : decode cX11_born 100 = .ok (.new 97, 3) := by decide +kernel
theorem dX11_born_103 : decode cX11_born 103 = .ok (.dup, 1) := by decide +kernel
theorem dX11_born_104 : decode cX11_born 104 = .ok (.iload_n 1, 1) := by decide +kernel
theorem dX11_born_105 : decode cX11_born 105 = .ok (.iload_n 2, 1) := by decide +kernel
theorem dX11_born_106 : decode cX11_born 106 = .ok (.iload_n 3, 1) := by decide +kernel
theorem dX11_born_107 : decode cX11_born 107 = .ok (.aload_n 0, 1) := by decide +kernel
theorem dX11_born_108 : decode cX11_born 108 = .ok (.getfield 47, 3) := by decide +kernel
theorem dX11_born_111 : decode cX11_born 111 = .ok (.invokespecial 99, 3) := by decide +kernel
theorem dX11_born_114 : decode cX11_born 114 = .ok (.areturn, 1) := by decide +kernel
theorem dX11_born_115 : decode cX11_born 115 = .ok (.new 100, 3) := by decide +kernel
theorem dX11_born_118 : decode cX11_born 118 = .ok (.dup, 1) := by decide +kernel
theorem dX11_born_119 : decode cX11_born 119 = .ok (.iload_n 1, 1) := by decide +kernel
theorem dX11_born_120 : decode cX11_born 120 = .ok (.iload_n 2, 1) := by decide +kernel
theorem dX11_born_121 : decode cX11_born 121 = .ok (.iload_n 3, 1) := by decide +kernel
theorem dX11_born_122 : decode cX11_born 122 = .ok (.aload_n 0, 1) := by decide +kernel
theorem dX11_born_123 : decode cX11_born 123 = .ok (.getfield 47, 3) := by decide +kernel
theorem dX11_born_126 : decode cX11_born 126 = .ok (.invokespecial 102, 3) := by decide +kernel
theorem dX11_born_129 : decode cX11_born 129 = .ok (.areturn, 1) := by decide +kernel
theorem dX11_born_130 : decode cX11_born 130 = .ok (.new 103, 3) := by decide +kernel
theorem dX11_born_133 : decode cX11_born 133 = .ok (.dup, 1) := by decide +kernel
theorem dX11_born_134 : decode cX11_born 134 = .ok (.iload_n 1, 1) := by decide +kernel
theorem dX11_born_135 : decode cX11_born 135 = .ok (.iload_n 2, 1) := by decide +kernel
theorem dX11_born_136 : decode cX11_born 136 = .ok (.iload_n 3, 1) := by decide +kernel
theorem dX11_born_137 : decode cX11_born 137 = .ok (.aload_n 0, 1) := by decide +kernel
theorem dX11_born_138 : decode cX11_born 138 = .ok (.getfield 47, 3) := by decide +kernel
theorem dX11_born_141 : decode cX11_born 141 = .ok (.invokespecial 105, 3) := by decide +kernel
theorem dX11_born_144 : decode cX11_born 144 = .ok (.areturn, 1) := by decide +kernel
theorem dX11_at_0 : decode cX11_at 0 = .ok (.aload_n 0, 1) := by decide +kernel
theorem dX11_at_1 : decode cX11_at 1 = .ok (.getfield 12, 3) := by decide +kernel
theorem dX11_at_4 : decode cX11_at 4 = .ok (.iload_n 1, 1) := by decide +kernel
theorem dX11_at_5 : decode cX11_at 5 = .ok (.invokevirtual 106, 3) := by decide +kernel
theorem dX11_at_8 : decode cX11_at 8 = .ok (.ifCond .ne 5, 3) := by decide +kernel
theorem dX11_at_11 : decode cX11_at 11 = .ok (.iconst (-1), 1) := by decide +kernel
theorem dX11_at_12 : decode cX11_at 12 = .ok (.ireturn, 1) := by decide +kernel
theorem dX11_at_13 : decode cX11_at 13 = .ok (.iload_n 2, 1) := by decide +kernel
theorem dX11_at_14 : decode cX11_at 14 = .ok (.tableswitch 56 0 2 #[26, 36, 46], 26) := by decide +kernel
theorem dX11_at_40 : decode cX11_at 40 = .ok (.aload_n 0, 1) := by decide +kernel
theorem dX11_at_41 : decode cX11_at 41 = .ok (.getfield 12, 3) := by decide +kernel
theorem dX11_at_44 : decode cX11_at 44 = .ok (.getfield 60, 3) := by decide +kernel
theorem dX11_at_47 : decode cX11_at 47 = .ok (.iload_n 1, 1) := by decide +kernel
theorem dX11_at_48 : decode cX11_at 48 = .ok (.iaload, 1) := by decide +kernel
theorem dX11_at_49 : decode cX11_at 49 = .ok (.ireturn, 1) := by decide +kernel
theorem dX11_at_50 : decode cX11_at 50 = .ok (.aload_n 0, 1) := by decide +kernel
theorem dX11_at_51 : decode cX11_at 51 = .ok (.getfield 12, 3) := by decide +kernel
theorem dX11_at_54 : decode cX11_at 54 = .ok (.getfield 63, 3) := by decide +kernel
theorem dX11_at_57 : decode cX11_at 57 = .ok (.iload_n 1, 1) := by decide +kernel
theorem dX11_at_58 : decode cX11_at 58 = .ok (.iaload, 1) := by decide +kernel
theorem dX11_at_59 : decode cX11_at 59 = .ok (.ireturn, 1) := by decide +kernel
theorem dX11_at_60 : decode cX11_at 60 = .ok (.aload_n 0, 1) := by decide +kernel
theorem dX11_at_61 : decode cX11_at 61 = .ok (.getfield 12, 3) := by decide +kernel
theorem dX11_at_64 : decode cX11_at 64 = .ok (.getfield 66, 3) := by decide +kernel
theorem dX11_at_67 : decode cX11_at 67 = .ok (.iload_n 1, 1) := by decide +kernel
theorem dX11_at_68 : decode cX11_at 68 = .ok (.iaload, 1) := by decide +kernel
theorem dX11_at_69 : decode cX11_at 69 = .ok (.ireturn, 1) := by decide +kernel
theorem dX11_at_70 : decode cX11_at 70 = .ok (.iconst (-1), 1) := by decide +kernel
theorem dX11_at_71 : decode cX11_at 71 = .ok (.ireturn, 1) := by decide +kernel
theorem dX11_of_0 : decode cX11_of 0 = .ok (.aload_n 0, 1) := by decide +kernel
theorem dX11_of_1 : decode cX11_of 1 = .ok (.getfield 12, 3) := by decide +kernel
theorem dX11_of_4 : decode cX11_of 4 = .ok (.iload_n 1, 1) := by decide +kernel
theorem dX11_of_5 : decode cX11_of 5 = .ok (.invokevirtual 110, 3) := by decide +kernel
theorem dX11_of_8 : decode cX11_of 8 = .ok (.astore_n 3, 1) := by decide +kernel
theorem dX11_of_9 : decode cX11_of 9 = .ok (.aload_n 3, 1) := by decide +kernel
theorem dX11_of_10 : decode cX11_of 10 = .ok (.ifnull 13, 3) := by decide +kernel
theorem dX11_of_13 : decode cX11_of 13 = .ok (.iload_n 2, 1) := by decide +kernel
theorem dX11_of_14 : decode cX11_of 14 = .ok (.ifCond .lt 9, 3) := by decide +kernel
theorem dX11_of_17 : decode cX11_of 17 = .ok (.iload_n 2, 1) := by decide +kernel
theorem dX11_of_18 : decode cX11_of 18 = .ok (.bipush 40, 2) := by decide +kernel
theorem dX11_of_20 : decode cX11_of 20 = .ok (.if_icmp .lt 5, 3) := by decide +kernel
theorem dX11_of_23 : decode cX11_of 23 = .ok (.iconst (-1), 1) := by decide +kernel
theorem dX11_of_24 : decode cX11_of 24 = .ok (.ireturn, 1) := by decide +kernel
theorem dX11_of_25 : decode cX11_of 25 = .ok (.iload_n 2, 1) := by decide +kernel
theorem dX11_of_26 : decode cX11_of 26 = .ok (.ifCond .ne 8, 3) := by decide +kernel
theorem dX11_of_29 : decode cX11_of 29 = .ok (.aload_n 3, 1) := by decide +kernel
theorem dX11_of_30 : decode cX11_of 30 = .ok (.getfield 114, 3) := by decide +kernel
theorem dX11_of_33 : decode cX11_of 33 = .ok (.ireturn, 1) := by decide +kernel
theorem dX11_of_34 : decode cX11_of 34 = .ok (.iload_n 2, 1) := by decide +kernel
theorem dX11_of_35 : decode cX11_of 35 = .ok (.iconst 1, 1) := by decide +kernel
theorem dX11_of_36 : decode cX11_of 36 = .ok (.if_icmp .ne 8, 3) := by decide +kernel
theorem dX11_of_39 : decode cX11_of 39 = .ok (.aload_n 3, 1) := by decide +kernel
theorem dX11_of_40 : decode cX11_of 40 = .ok (.getfield 117, 3) := by decide +kernel
theorem dX11_of_43 : decode cX11_of 43 = .ok (.ireturn, 1) := by decide +kernel
theorem dX11_of_44 : decode cX11_of 44 = .ok (.iload_n 2, 1) := by decide +kernel
theorem dX11_of_45 : decode cX11_of 45 = .ok (.bipush 10, 2) := by decide +kernel
theorem dX11_of_47 : decode cX11_of 47 = .ok (.irem, 1) := by decide +kernel
theorem dX11_of_48 : decode cX11_of 48 = .ok (.istore 4, 2) := by decide +kernel
theorem dX11_of_50 : decode cX11_of 50 = .ok (.iload_n 2, 1) := by decide +kernel
theorem dX11_of_51 : decode cX11_of 51 = .ok (.bipush 10, 2) := by decide +kernel
theorem dX11_of_53 : decode cX11_of 53 = .ok (.if_icmp .lt 15, 3) := by decide +kernel
theorem dX11_of_56 : decode cX11_of 56 = .ok (.aload_n 0, 1) := by decide +kernel
theorem dX11_of_57 : decode cX11_of 57 = .ok (.getfield 12, 3) := by decide +kernel
theorem dX11_of_60 : decode cX11_of 60 = .ok (.iload 4, 2) := by decide +kernel
theorem dX11_of_62 : decode cX11_of 62 = .ok (.invokevirtual 106, 3) := by decide +kernel
theorem dX11_of_65 : decode cX11_of 65 = .ok (.ifCond .ne 5, 3) := by decide +kernel
theorem dX11_of_68 : decode cX11_of 68 = .ok (.iconst (-1), 1) := by decide +kernel
theorem dX11_of_69 : decode cX11_of 69 = .ok (.ireturn, 1) := by decide +kernel
theorem dX11_of_70 : decode cX11_of 70 = .ok (.iload_n 2, 1) := by decide +kernel
theorem dX11_of_71 : decode cX11_of 71 = .ok (.bipush 20, 2) := by decide +kernel
theorem dX11_of_73 : decode cX11_of 73 = .ok (.if_icmp .ge 22, 3) := by decide +kernel
theorem dX11_of_76 : decode cX11_of 76 = .ok (.aload_n 3, 1) := by decide +kernel
theorem dX11_of_77 : decode cX11_of 77 = .ok (.aload_n 0, 1) := by decide +kernel
theorem dX11_of_78 : decode cX11_of 78 = .ok (.getfield 12, 3) := by decide +kernel
theorem dX11_of_81 : decode cX11_of 81 = .ok (.iload 4, 2) := by decide +kernel
theorem dX11_of_83 : decode cX11_of 83 = .ok (.invokevirtual 120, 3) := by decide +kernel
theorem dX11_of_86 : decode cX11_of 86 = .ok (.ifCond .eq 7, 3) := by decide +kernel
theorem dX11_of_89 : decode cX11_of 89 = .ok (.iconst 1, 1) := by decide +kernel
theorem dX11_of_90 : decode cX11_of 90 = .ok (.goto 4, 3) := by decide +kernel
theorem dX11_of_93 : decode cX11_of 93 = .ok (.iconst 0, 1) := by decide +kernel
theorem dX11_of_94 : decode cX11_of 94 = .ok (.ireturn, 1) := by decide +kernel
theorem dX11_of_95 : decode cX11_of 95 = .ok (.aload_n 0, 1) := by decide +kernel
theorem dX11_of_96 : decode cX11_of 96 = .ok (.getfield 12, 3) := by decide +kernel
theorem dX11_of_99 : decode cX11_of 99 = .ok (.aload_n 3, 1) := by decide +kernel
theorem dX11_of_100 : decode cX11_of 100 = .ok (.iload 4, 2) := by decide +kernel
theorem dX11_of_102 : decode cX11_of 102 = .ok (.iload_n 2, 1) := by decide +kernel
theorem dX11_of_103 : decode cX11_of 103 = .ok (.bipush 30, 2) := by decide +kernel
theorem dX11_of_105 : decode cX11_of 105 = .ok (.if_icmp .ge 7, 3) := by decide +kernel
theorem dX11_of_108 : decode cX11_of 108 = .ok (.iconst 1, 1) := by decide +kernel
theorem dX11_of_109 : decode cX11_of 109 = .ok (.goto 4, 3) := by decide +kernel
theorem dX11_of_112 : decode cX11_of 112 = .ok (.iconst 0, 1) := by decide +kernel
theorem dX11_of_113 : decode cX11_of 113 = .ok (.invokevirtual 124, 3) := by decide +kernel
theorem dX11_of_116 : decode cX11_of 116 = .ok (.ireturn, 1) := by decide +kernel
theorem dX11_habit_0 : decode cX11_habit 0 = .ok (.aload_n 0, 1) := by decide +kernel
theorem dX11_habit_1 : decode cX11_habit 1 = .ok (.getfield 12, 3) := by decide +kernel
theorem dX11_habit_4 : decode cX11_habit 4 = .ok (.iload_n 1, 1) := by decide +kernel
theorem dX11_habit_5 : decode cX11_habit 5 = .ok (.invokevirtual 106, 3) := by decide +kernel
theorem dX11_habit_8 : decode cX11_habit 8 = .ok (.ifCond .ne 5, 3) := by decide +kernel
theorem dX11_habit_11 : decode cX11_habit 11 = .ok (.iconst (-1), 1) := by decide +kernel
theorem dX11_habit_12 : decode cX11_habit 12 = .ok (.ireturn, 1) := by decide +kernel
theorem dX11_habit_13 : decode cX11_habit 13 = .ok (.iload_n 2, 1) := by decide +kernel
theorem dX11_habit_14 : decode cX11_habit 14 = .ok (.ifCond .lt 10, 3) := by decide +kernel
theorem dX11_habit_17 : decode cX11_habit 17 = .ok (.iload_n 2, 1) := by decide +kernel
theorem dX11_habit_18 : decode cX11_habit 18 = .ok (.sipush 999, 3) := by decide +kernel
theorem dX11_habit_21 : decode cX11_habit 21 = .ok (.if_icmp .le 6, 3) := by decide +kernel
theorem dX11_habit_24 : decode cX11_habit 24 = .ok (.bipush (-2), 2) := by decide +kernel
theorem dX11_habit_26 : decode cX11_habit 26 = .ok (.ireturn, 1) := by decide +kernel
theorem dX11_habit_27 : decode cX11_habit 27 = .ok (.aload_n 0, 1) := by decide +kernel
theorem dX11_habit_28 : decode cX11_habit 28 = .ok (.getfield 12, 3) := by decide +kernel
theorem dX11_habit_31 : decode cX11_habit 31 = .ok (.getfield 66, 3) := by decide +kernel
theorem dX11_habit_34 : decode cX11_habit 34 = .ok (.iload_n 1, 1) := by decide +kernel
theorem dX11_habit_35 : decode cX11_habit 35 = .ok (.iaload, 1) := by decide +kernel
theorem dX11_habit_36 : decode cX11_habit 36 = .ok (.istore_n 3, 1) := by decide +kernel
theorem dX11_habit_37 : decode cX11_habit 37 = .ok (.aload_n 0, 1) := by decide +kernel
theorem dX11_habit_38 : decode cX11_habit 38 = .ok (.getfield 12, 3) := by decide +kernel
theorem dX11_habit_41 : decode cX11_habit 41 = .ok (.getfield 66, 3) := by decide +kernel
theorem dX11_habit_44 : decode cX11_habit 44 = .ok (.iload_n 1, 1) := by decide +kernel
theorem dX11_habit_45 : decode cX11_habit 45 = .ok (.iload_n 2, 1) := by decide +kernel
theorem dX11_habit_46 : decode cX11_habit 46 = .ok (.iastore, 1) := by decide +kernel
theorem dX11_habit_47 : decode cX11_habit 47 = .ok (.iload_n 3, 1) := by decide +kernel
theorem dX11_habit_48 : decode cX11_habit 48 = .ok (.ireturn, 1) := by decide +kernel
theorem dX11_row_0 : decode cX11_row 0 = .ok (.aload_n 0, 1) := by decide +kernel
theorem dX11_row_1 : decode cX11_row 1 = .ok (.getfield 12, 3) := by decide +kernel
theorem dX11_row_4 : decode cX11_row 4 = .ok (.iload_n 1, 1) := by decide +kernel
theorem dX11_row_5 : decode cX11_row 5 = .ok (.invokevirtual 110, 3) := by decide +kernel
theorem dX11_row_8 : decode cX11_row 8 = .ok (.astore 4, 2) := by decide +kernel
theorem dX11_row_10 : decode cX11_row 10 = .ok (.aload 4, 2) := by decide +kernel
theorem dX11_row_12 : decode cX11_row 12 = .ok (.ifnull 12, 3) := by decide +kernel
theorem dX11_row_15 : decode cX11_row 15 = .ok (.iload_n 2, 1) := by decide +kernel
theorem dX11_row_16 : decode cX11_row 16 = .ok (.ifCond .lt 8, 3) := by decide +kernel
theorem dX11_row_19 : decode cX11_row 19 = .ok (.iload_n 2, 1) := by decide +kernel
theorem dX11_row_20 : decode cX11_row 20 = .ok (.iconst 4, 1) := by decide +kernel
theorem dX11_row_21 : decode cX11_row 21 = .ok (.if_icmp .lt 5, 3) := by decide +kernel
theorem dX11_row_24 : decode cX11_row 24 = .ok (.iconst (-1), 1) := by decide +kernel
theorem dX11_row_25 : decode cX11_row 25 = .ok (.ireturn, 1) := by decide +kernel
theorem dX11_row_26 : decode cX11_row 26 = .ok (.iload_n 3, 1) := by decide +kernel
theorem dX11_row_27 : decode cX11_row 27 = .ok (.ifCond .lt 8, 3) := by decide +kernel
theorem dX11_row_30 : decode cX11_row 30 = .ok (.iload_n 3, 1) := by decide +kernel
theorem dX11_row_31 : decode cX11_row 31 = .ok (.iconst 1, 1) := by decide +kernel
theorem dX11_row_32 : decode cX11_row 32 = .ok (.if_icmp .le 6, 3) := by decide +kernel
theorem dX11_row_35 : decode cX11_row 35 = .ok (.bipush (-2), 2) := by decide +kernel
theorem dX11_row_37 : decode cX11_row 37 = .ok (.ireturn, 1) := by decide +kernel
theorem dX11_row_38 : decode cX11_row 38 = .ok (.aload 4, 2) := by decide +kernel
theorem dX11_row_40 : decode cX11_row 40 = .ok (.getfield 114, 3) := by decide +kernel
theorem dX11_row_43 : decode cX11_row 43 = .ok (.bipush 6, 2) := by decide +kernel
theorem dX11_row_45 : decode cX11_row 45 = .ok (.if_icmp .eq 6, 3) := by decide +kernel
theorem dX11_row_48 : decode cX11_row 48 = .ok (.bipush (-3), 2) := by decide +kernel
theorem dX11_row_50 : decode cX11_row 50 = .ok (.ireturn, 1) := by decide +kernel
theorem dX11_row_51 : decode cX11_row 51 = .ok (.aload_n 0, 1) := by decide +kernel
theorem dX11_row_52 : decode cX11_row 52 = .ok (.getfield 12, 3) := by decide +kernel
theorem dX11_row_55 : decode cX11_row 55 = .ok (.getfield 80, 3) := by decide +kernel
theorem dX11_row_58 : decode cX11_row 58 = .ok (.iconst 4, 1) := by decide +kernel
theorem dX11_row_59 : decode cX11_row 59 = .ok (.iload_n 1, 1) := by decide +kernel
theorem dX11_row_60 : decode cX11_row 60 = .ok (.imul, 1) := by decide +kernel
theorem dX11_row_61 : decode cX11_row 61 = .ok (.iload_n 2, 1) := by decide +kernel
theorem dX11_row_62 : decode cX11_row 62 = .ok (.iadd, 1) := by decide +kernel
theorem dX11_row_63 : decode cX11_row 63 = .ok (.iaload, 1) := by decide +kernel
theorem dX11_row_64 : decode cX11_row 64 = .ok (.istore 5, 2) := by decide +kernel
theorem dX11_row_66 : decode cX11_row 66 = .ok (.aload_n 0, 1) := by decide +kernel
theorem dX11_row_67 : decode cX11_row 67 = .ok (.getfield 12, 3) := by decide +kernel
theorem dX11_row_70 : decode cX11_row 70 = .ok (.getfield 80, 3) := by decide +kernel
theorem dX11_row_73 : decode cX11_row 73 = .ok (.iconst 4, 1) := by decide +kernel
theorem dX11_row_74 : decode cX11_row 74 = .ok (.iload_n 1, 1) := by decide +kernel
theorem dX11_row_75 : decode cX11_row 75 = .ok (.imul, 1) := by decide +kernel
theorem dX11_row_76 : decode cX11_row 76 = .ok (.iload_n 2, 1) := by decide +kernel
theorem dX11_row_77 : decode cX11_row 77 = .ok (.iadd, 1) := by decide +kernel
theorem dX11_row_78 : decode cX11_row 78 = .ok (.iload_n 3, 1) := by decide +kernel
theorem dX11_row_79 : decode cX11_row 79 = .ok (.iastore, 1) := by decide +kernel
theorem dX11_row_80 : decode cX11_row 80 = .ok (.iload 5, 2) := by decide +kernel
theorem dX11_row_82 : decode cX11_row 82 = .ok (.ireturn, 1) := by decide +kernel
theorem dX11_feed_0 : decode cX11_feed 0 = .ok (.iload_n 1, 1) := by decide +kernel
theorem dX11_feed_1 : decode cX11_feed 1 = .ok (.ifCond .lt 9, 3) := by decide +kernel
theorem dX11_feed_4 : decode cX11_feed 4 = .ok (.iload_n 1, 1) := by decide +kernel
theorem dX11_feed_5 : decode cX11_feed 5 = .ok (.bipush 127, 2) := by decide +kernel
theorem dX11_feed_7 : decode cX11_feed 7 = .ok (.if_icmp .le 6, 3) := by decide +kernel
theorem dX11_feed_10 : decode cX11_feed 10 = .ok (.bipush (-2), 2) := by decide +kernel
theorem dX11_feed_12 : decode cX11_feed 12 = .ok (.ireturn, 1) := by decide +kernel
theorem dX11_feed_13 : decode cX11_feed 13 = .ok (.aload_n 0, 1) := by decide +kernel
theorem dX11_feed_14 : decode cX11_feed 14 = .ok (.getfield 31, 3) := by decide +kernel
theorem dX11_feed_17 : decode cX11_feed 17 = .ok (.getfield 128, 3) := by decide +kernel
theorem dX11_feed_20 : decode cX11_feed 20 = .ok (.bipush 100, 2) := by decide +kernel
theorem dX11_feed_22 : decode cX11_feed 22 = .ok (.if_icmp .lt 6, 3) := by decide +kernel
theorem dX11_feed_25 : decode cX11_feed 25 = .ok (.bipush (-4), 2) := by decide +kernel
theorem dX11_feed_27 : decode cX11_feed 27 = .ok (.ireturn, 1) := by decide +kernel
theorem dX11_feed_28 : decode cX11_feed 28 = .ok (.aload_n 0, 1) := by decide +kernel
theorem dX11_feed_29 : decode cX11_feed 29 = .ok (.getfield 31, 3) := by decide +kernel
theorem dX11_feed_32 : decode cX11_feed 32 = .ok (.getfield 131, 3) := by decide +kernel
theorem dX11_feed_35 : decode cX11_feed 35 = .ok (.aload_n 0, 1) := by decide +kernel
theorem dX11_feed_36 : decode cX11_feed 36 = .ok (.getfield 31, 3) := by decide +kernel
theorem dX11_feed_39 : decode cX11_feed 39 = .ok (.dup, 1) := by decide +kernel
theorem dX11_feed_40 : decode cX11_feed 40 = .ok (.getfield 128, 3) := by decide +kernel
theorem dX11_feed_43 : decode cX11_feed 43 = .ok (.dup_x1, 1) := by decide +kernel
theorem dX11_feed_44 : decode cX11_feed 44 = .ok (.iconst 1, 1) := by decide +kernel
theorem dX11_feed_45 : decode cX11_feed 45 = .ok (.iadd, 1) := by decide +kernel
theorem dX11_feed_46 : decode cX11_feed 46 = .ok (.putfield 128, 3) := by decide +kernel
theorem dX11_feed_49 : decode cX11_feed 49 = .ok (.iload_n 1, 1) := by decide +kernel
theorem dX11_feed_50 : decode cX11_feed 50 = .ok (.iastore, 1) := by decide +kernel
theorem dX11_feed_51 : decode cX11_feed 51 = .ok (.aload_n 0, 1) := by decide +kernel
theorem dX11_feed_52 : decode cX11_feed 52 = .ok (.getfield 31, 3) := by decide +kernel
theorem dX11_feed_55 : decode cX11_feed 55 = .ok (.getfield 128, 3) := by decide +kernel
theorem dX11_feed_58 : decode cX11_feed 58 = .ok (.ireturn, 1) := by decide +kernel
theorem dX11_house_0 : decode cX11_house 0 = .ok (.aload_n 0, 1) := by decide +kernel
theorem dX11_house_1 : decode cX11_house 1 = .ok (.getfield 134, 3) := by decide +kernel
theorem dX11_house_4 : decode cX11_house 4 = .ok (.bipush 6, 2) := by decide +kernel
theorem dX11_house_6 : decode cX11_house 6 = .ok (.if_icmp .lt 6, 3) := by decide +kernel
theorem dX11_house_9 : decode cX11_house 9 = .ok (.bipush (-4), 2) := by decide +kernel
theorem dX11_house_11 : decode cX11_house 11 = .ok (.ireturn, 1) := by decide +kernel
theorem dX11_house_12 : decode cX11_house 12 = .ok (.aload_n 0, 1) := by decide +kernel
theorem dX11_house_13 : decode cX11_house 13 = .ok (.getfield 31, 3) := by decide +kernel
theorem dX11_house_16 : decode cX11_house 16 = .ok (.invokevirtual 137, 3) := by decide +kernel
theorem dX11_house_19 : decode cX11_house 19 = .ok (.istore_n 1, 1) := by decide +kernel
theorem dX11_house_20 : decode cX11_house 20 = .ok (.aload_n 0, 1) := by decide +kernel
theorem dX11_house_21 : decode cX11_house 21 = .ok (.getfield 31, 3) := by decide +kernel
theorem dX11_house_24 : decode cX11_house 24 = .ok (.iconst 0, 1) := by decide +kernel
theorem dX11_house_25 : decode cX11_house 25 = .ok (.putfield 128, 3) := by decide +kernel
theorem dX11_house_28 : decode cX11_house 28 = .ok (.iload_n 1, 1) := by decide +kernel
theorem dX11_house_29 : decode cX11_house 29 = .ok (.ifCond .ne 14, 3) := by decide +kernel
theorem dX11_house_32 : decode cX11_house 32 = .ok (.bipush (-10), 2) := by decide +kernel
theorem dX11_house_34 : decode cX11_house 34 = .ok (.aload_n 0, 1) := by decide +kernel
theorem dX11_house_35 : decode cX11_house 35 = .ok (.getfield 31, 3) := by decide +kernel
theorem dX11_house_38 : decode cX11_house 38 = .ok (.getfield 141, 3) := by decide +kernel
theorem dX11_house_41 : decode cX11_house 41 = .ok (.isub, 1) := by decide +kernel
theorem dX11_house_42 : decode cX11_house 42 = .ok (.ireturn, 1) := by decide +kernel
theorem dX11_house_43 : decode cX11_house 43 = .ok (.aload_n 0, 1) := by decide +kernel
theorem dX11_house_44 : decode cX11_house 44 = .ok (.getfield 12, 3) := by decide +kernel
theorem dX11_house_47 : decode cX11_house 47 = .ok (.new 144, 3) := by decide +kernel
theorem dX11_house_50 : decode cX11_house 50 = .ok (.dup, 1) := by decide +kernel
theorem dX11_house_51 : decode cX11_house 51 = .ok (.aload_n 0, 1) := by decide +kernel
theorem dX11_house_52 : decode cX11_house 52 = .ok (.getfield 31, 3) := by decide +kernel
theorem dX11_house_55 : decode cX11_house 55 = .ok (.invokespecial 146, 3) := by decide +kernel
theorem dX11_house_58 : decode cX11_house 58 = .ok (.invokevirtual 149, 3) := by decide +kernel
theorem dX11_house_61 : decode cX11_house 61 = .ok (.aload_n 0, 1) := by decide +kernel
theorem dX11_house_62 : decode cX11_house 62 = .ok (.dup, 1) := by decide +kernel
theorem dX11_house_63 : decode cX11_house 63 = .ok (.getfield 134, 3) := by decide +kernel
theorem dX11_house_66 : decode cX11_house 66 = .ok (.dup_x1, 1) := by decide +kernel
theorem dX11_house_67 : decode cX11_house 67 = .ok (.iconst 1, 1) := by decide +kernel
theorem dX11_house_68 : decode cX11_house 68 = .ok (.iadd, 1) := by decide +kernel
theorem dX11_house_69 : decode cX11_house 69 = .ok (.putfield 134, 3) := by decide +kernel
theorem dX11_house_72 : decode cX11_house 72 = .ok (.ireturn, 1) := by decide +kernel
theorem dX11_told_0 : decode cX11_told 0 = .ok (.iload_n 1, 1) := by decide +kernel
theorem dX11_told_1 : decode cX11_told 1 = .ok (.tableswitch 123 0 8 #[51, 59, 67, 75, 83, 91, 99, 107, 115], 51) := by decide +kernel
theorem dX11_told_52 : decode cX11_told 52 = .ok (.aload_n 0, 1) := by decide +kernel
theorem dX11_told_53 : decode cX11_told 53 = .ok (.getfield 12, 3) := by decide +kernel
theorem dX11_told_56 : decode cX11_told 56 = .ok (.getfield 153, 3) := by decide +kernel
theorem dX11_told_59 : decode cX11_told 59 = .ok (.ireturn, 1) := by decide +kernel
theorem dX11_told_60 : decode cX11_told 60 = .ok (.aload_n 0, 1) := by decide +kernel
theorem dX11_told_61 : decode cX11_told 61 = .ok (.getfield 12, 3) := by decide +kernel
theorem dX11_told_64 : decode cX11_told 64 = .ok (.getfield 156, 3) := by decide +kernel
theorem dX11_told_67 : decode cX11_told 67 = .ok (.ireturn, 1) := by decide +kernel
theorem dX11_told_68 : decode cX11_told 68 = .ok (.aload_n 0, 1) := by decide +kernel
theorem dX11_told_69 : decode cX11_told 69 = .ok (.getfield 12, 3) := by decide +kernel
theorem dX11_told_72 : decode cX11_told 72 = .ok (.getfield 159, 3) := by decide +kernel
theorem dX11_told_75 : decode cX11_told 75 = .ok (.ireturn, 1) := by decide +kernel
theorem dX11_told_76 : decode cX11_told 76 = .ok (.aload_n 0, 1) := by decide +kernel
theorem dX11_told_77 : decode cX11_told 77 = .ok (.getfield 12, 3) := by decide +kernel
theorem dX11_told_80 : decode cX11_told 80 = .ok (.getfield 162, 3) := by decide +kernel
theorem dX11_told_83 : decode cX11_told 83 = .ok (.ireturn, 1) := by decide +kernel
theorem dX11_told_84 : decode cX11_told 84 = .ok (.aload_n 0, 1) := by decide +kernel
theorem dX11_told_85 : decode cX11_told 85 = .ok (.getfield 12, 3) := by decide +kernel
theorem dX11_told_88 : decode cX11_told 88 = .ok (.getfield 165, 3) := by decide +kernel
theorem dX11_told_91 : decode cX11_told 91 = .ok (.ireturn, 1) := by decide +kernel
theorem dX11_told_92 : decode cX11_told 92 = .ok (.aload_n 0, 1) := by decide +kernel
theorem dX11_told_93 : decode cX11_told 93 = .ok (.getfield 12, 3) := by decide +kernel
theorem dX11_told_96 : decode cX11_told 96 = .ok (.getfield 168, 3) := by decide +kernel
theorem dX11_told_99 : decode cX11_told 99 = .ok (.ireturn, 1) := by decide +kernel
theorem dX11_told_100 : decode cX11_told 100 = .ok (.aload_n 0, 1) := by decide +kernel
theorem dX11_told_101 : decode cX11_told 101 = .ok (.getfield 12, 3) := by decide +kernel
theorem dX11_told_104 : decode cX11_told 104 = .ok (.getfield 171, 3) := by decide +kernel
theorem dX11_told_107 : decode cX11_told 107 = .ok (.ireturn, 1) := by decide +kernel
theorem dX11_told_108 : decode cX11_told 108 = .ok (.aload_n 0, 1) := by decide +kernel
theorem dX11_told_109 : decode cX11_told 109 = .ok (.getfield 12, 3) := by decide +kernel
theorem dX11_told_112 : decode cX11_told 112 = .ok (.getfield 174, 3) := by decide +kernel
theorem dX11_told_115 : decode cX11_told 115 = .ok (.ireturn, 1) := by decide +kernel
theorem dX11_told_116 : decode cX11_told 116 = .ok (.aload_n 0, 1) := by decide +kernel
theorem dX11_told_117 : decode cX11_told 117 = .ok (.getfield 12, 3) := by decide +kernel
theorem dX11_told_120 : decode cX11_told 120 = .ok (.invokevirtual 177, 3) := by decide +kernel
theorem dX11_told_123 : decode cX11_told 123 = .ok (.ireturn, 1) := by decide +kernel
theorem dX11_told_124 : decode cX11_told 124 = .ok (.iconst (-1), 1) := by decide +kernel
theorem dX11_told_125 : decode cX11_told 125 = .ok (.ireturn, 1) := by decide +kernel
theorem dX11_ask_0 : decode cX11_ask 0 = .ok (.aload_n 0, 1) := by decide +kernel
theorem dX11_ask_1 : decode cX11_ask 1 = .ok (.getfield 12, 3) := by decide +kernel
theorem dX11_ask_4 : decode cX11_ask 4 = .ok (.iload_n 1, 1) := by decide +kernel
theorem dX11_ask_5 : decode cX11_ask 5 = .ok (.invokevirtual 110, 3) := by decide +kernel
theorem dX11_ask_8 : decode cX11_ask 8 = .ok (.astore_n 2, 1) := by decide +kernel
theorem dX11_ask_9 : decode cX11_ask 9 = .ok (.aload_n 2, 1) := by decide +kernel
theorem dX11_ask_10 : decode cX11_ask 10 = .ok (.ifnonnull 5, 3) := by decide +kernel
theorem dX11_ask_13 : decode cX11_ask 13 = .ok (.iconst (-1), 1) := by decide +kernel
theorem dX11_ask_14 : decode cX11_ask 14 = .ok (.ireturn, 1) := by decide +kernel
theorem dX11_ask_15 : decode cX11_ask 15 = .ok (.aload_n 0, 1) := by decide +kernel
theorem dX11_ask_16 : decode cX11_ask 16 = .ok (.getfield 12, 3) := by decide +kernel
theorem dX11_ask_19 : decode cX11_ask 19 = .ok (.invokevirtual 177, 3) := by decide +kernel
theorem dX11_ask_22 : decode cX11_ask 22 = .ok (.ifCond .ne 20, 3) := by decide +kernel
theorem dX11_ask_25 : decode cX11_ask 25 = .ok (.aload_n 0, 1) := by decide +kernel
theorem dX11_ask_26 : decode cX11_ask 26 = .ok (.getfield 12, 3) := by decide +kernel
theorem dX11_ask_29 : decode cX11_ask 29 = .ok (.aload_n 0, 1) := by decide +kernel
theorem dX11_ask_30 : decode cX11_ask 30 = .ok (.getfield 12, 3) := by decide +kernel
theorem dX11_ask_33 : decode cX11_ask 33 = .ok (.getfield 168, 3) := by decide +kernel
theorem dX11_ask_36 : decode cX11_ask 36 = .ok (.invokevirtual 106, 3) := by decide +kernel
theorem dX11_ask_39 : decode cX11_ask 39 = .ok (.ifCond .ne 6, 3) := by decide +kernel
theorem dX11_ask_42 : decode cX11_ask 42 = .ok (.bipush (-3), 2) := by decide +kernel
theorem dX11_ask_44 : decode cX11_ask 44 = .ok (.ireturn, 1) := by decide +kernel
theorem dX11_ask_45 : decode cX11_ask 45 = .ok (.aload_n 2, 1) := by decide +kernel
theorem dX11_ask_46 : decode cX11_ask 46 = .ok (.aload_n 0, 1) := by decide +kernel
theorem dX11_ask_47 : decode cX11_ask 47 = .ok (.getfield 12, 3) := by decide +kernel
theorem dX11_ask_50 : decode cX11_ask 50 = .ok (.aload_n 0, 1) := by decide +kernel
theorem dX11_ask_51 : decode cX11_ask 51 = .ok (.getfield 12, 3) := by decide +kernel
theorem dX11_ask_54 : decode cX11_ask 54 = .ok (.getfield 168, 3) := by decide +kernel
theorem dX11_ask_57 : decode cX11_ask 57 = .ok (.invokevirtual 120, 3) := by decide +kernel
theorem dX11_ask_60 : decode cX11_ask 60 = .ok (.istore_n 3, 1) := by decide +kernel
theorem dX11_ask_61 : decode cX11_ask 61 = .ok (.aload_n 0, 1) := by decide +kernel
theorem dX11_ask_62 : decode cX11_ask 62 = .ok (.getfield 12, 3) := by decide +kernel
theorem dX11_ask_65 : decode cX11_ask 65 = .ok (.aload_n 2, 1) := by decide +kernel
theorem dX11_ask_66 : decode cX11_ask 66 = .ok (.aload_n 0, 1) := by decide +kernel
theorem dX11_ask_67 : decode cX11_ask 67 = .ok (.getfield 12, 3) := by decide +kernel
theorem dX11_ask_70 : decode cX11_ask 70 = .ok (.getfield 168, 3) := by decide +kernel
theorem dX11_ask_73 : decode cX11_ask 73 = .ok (.iload_n 3, 1) := by decide +kernel
theorem dX11_ask_74 : decode cX11_ask 74 = .ok (.invokevirtual 181, 3) := by decide +kernel
theorem dX11_ask_77 : decode cX11_ask 77 = .ok (.aload_n 0, 1) := by decide +kernel
theorem dX11_ask_78 : decode cX11_ask 78 = .ok (.getfield 12, 3) := by decide +kernel
theorem dX11_ask_81 : decode cX11_ask 81 = .ok (.aload_n 0, 1) := by decide +kernel
theorem dX11_ask_82 : decode cX11_ask 82 = .ok (.getfield 12, 3) := by decide +kernel
theorem dX11_ask_85 : decode cX11_ask 85 = .ok (.getfield 168, 3) := by decide +kernel
theorem dX11_ask_88 : decode cX11_ask 88 = .ok (.iconst 1, 1) := by decide +kernel
theorem dX11_ask_89 : decode cX11_ask 89 = .ok (.iadd, 1) := by decide +kernel
theorem dX11_ask_90 : decode cX11_ask 90 = .ok (.aload_n 0, 1) := by decide +kernel
theorem dX11_ask_91 : decode cX11_ask 91 = .ok (.getfield 12, 3) := by decide +kernel
theorem dX11_ask_94 : decode cX11_ask 94 = .ok (.getfield 56, 3) := by decide +kernel
theorem dX11_ask_97 : decode cX11_ask 97 = .ok (.if_icmp .ge 15, 3) := by decide +kernel
theorem dX11_ask_100 : decode cX11_ask 100 = .ok (.aload_n 0, 1) := by decide +kernel
theorem dX11_ask_101 : decode cX11_ask 101 = .ok (.getfield 12, 3) := by decide +kernel
theorem dX11_ask_104 : decode cX11_ask 104 = .ok (.getfield 168, 3) := by decide +kernel
theorem dX11_ask_107 : decode cX11_ask 107 = .ok (.iconst 1, 1) := by decide +kernel
theorem dX11_ask_108 : decode cX11_ask 108 = .ok (.iadd, 1) := by decide +kernel
theorem dX11_ask_109 : decode cX11_ask 109 = .ok (.goto 4, 3) := by decide +kernel
theorem dX11_ask_112 : decode cX11_ask 112 = .ok (.iconst 0, 1) := by decide +kernel
theorem dX11_ask_113 : decode cX11_ask 113 = .ok (.putfield 168, 3) := by decide +kernel
theorem dX11_ask_116 : decode cX11_ask 116 = .ok (.iload_n 3, 1) := by decide +kernel
theorem dX11_ask_117 : decode cX11_ask 117 = .ok (.ifCond .eq 7, 3) := by decide +kernel
theorem dX11_ask_120 : decode cX11_ask 120 = .ok (.iconst 1, 1) := by decide +kernel
theorem dX11_ask_121 : decode cX11_ask 121 = .ok (.goto 4, 3) := by decide +kernel
theorem dX11_ask_124 : decode cX11_ask 124 = .ok (.iconst 0, 1) := by decide +kernel
theorem dX11_ask_125 : decode cX11_ask 125 = .ok (.ireturn, 1) := by decide +kernel
theorem dX11_night_0 : decode cX11_night 0 = .ok (.aload_n 0, 1) := by decide +kernel
theorem dX11_night_1 : decode cX11_night 1 = .ok (.getfield 12, 3) := by decide +kernel
theorem dX11_night_4 : decode cX11_night 4 = .ok (.getfield 153, 3) := by decide +kernel
theorem dX11_night_7 : decode cX11_night 7 = .ok (.sipush 9999, 3) := by decide +kernel
theorem dX11_night_10 : decode cX11_night 10 = .ok (.if_icmp .lt 6, 3) := by decide +kernel
theorem dX11_night_13 : decode cX11_night 13 = .ok (.bipush (-3), 2) := by decide +kernel
theorem dX11_night_15 : decode cX11_night 15 = .ok (.ireturn, 1) := by decide +kernel
theorem dX11_night_16 : decode cX11_night 16 = .ok (.aload_n 0, 1) := by decide +kernel
theorem dX11_night_17 : decode cX11_night 17 = .ok (.getfield 12, 3) := by decide +kernel
theorem dX11_night_20 : decode cX11_night 20 = .ok (.invokevirtual 177, 3) := by decide +kernel
theorem dX11_night_23 : decode cX11_night 23 = .ok (.istore_n 1, 1) := by decide +kernel
theorem dX11_night_24 : decode cX11_night 24 = .ok (.aload_n 0, 1) := by decide +kernel
theorem dX11_night_25 : decode cX11_night 25 = .ok (.getfield 12, 3) := by decide +kernel
theorem dX11_night_28 : decode cX11_night 28 = .ok (.invokevirtual 185, 3) := by decide +kernel
theorem dX11_night_31 : decode cX11_night 31 = .ok (.iload_n 1, 1) := by decide +kernel
theorem dX11_night_32 : decode cX11_night 32 = .ok (.ireturn, 1) := by decide +kernel
theorem dX11_will_0 : decode cX11_will 0 = .ok (.aload_n 0, 1) := by decide +kernel
theorem dX11_will_1 : decode cX11_will 1 = .ok (.getfield 12, 3) := by decide +kernel
theorem dX11_will_4 : decode cX11_will 4 = .ok (.iload_n 1, 1) := by decide +kernel
theorem dX11_will_5 : decode cX11_will 5 = .ok (.invokevirtual 106, 3) := by decide +kernel
theorem dX11_will_8 : decode cX11_will 8 = .ok (.ifCond .ne 5, 3) := by decide +kernel
theorem dX11_will_11 : decode cX11_will 11 = .ok (.iconst (-1), 1) := by decide +kernel
theorem dX11_will_12 : decode cX11_will 12 = .ok (.ireturn, 1) := by decide +kernel
theorem dX11_will_13 : decode cX11_will 13 = .ok (.iconst 0, 1) := by decide +kernel
theorem dX11_will_14 : decode cX11_will 14 = .ok (.istore_n 2, 1) := by decide +kernel
theorem dX11_will_15 : decode cX11_will 15 = .ok (.iconst 0, 1) := by decide +kernel
theorem dX11_will_16 : decode cX11_will 16 = .ok (.istore_n 3, 1) := by decide +kernel
theorem dX11_will_17 : decode cX11_will 17 = .ok (.iload_n 3, 1) := by decide +kernel
theorem dX11_will_18 : decode cX11_will 18 = .ok (.aload_n 0, 1) := by decide +kernel
theorem dX11_will_19 : decode cX11_will 19 = .ok (.getfield 12, 3) := by decide +kernel
theorem dX11_will_22 : decode cX11_will 22 = .ok (.getfield 69, 3) := by decide +kernel
theorem dX11_will_25 : decode cX11_will 25 = .ok (.if_icmp .ge 43, 3) := by decide +kernel
theorem dX11_will_28 : decode cX11_will 28 = .ok (.aload_n 0, 1) := by decide +kernel
theorem dX11_will_29 : decode cX11_will 29 = .ok (.getfield 12, 3) := by decide +kernel
theorem dX11_will_32 : decode cX11_will 32 = .ok (.iload_n 3, 1) := by decide +kernel
theorem dX11_will_33 : decode cX11_will 33 = .ok (.invokevirtual 110, 3) := by decide +kernel
theorem dX11_will_36 : decode cX11_will 36 = .ok (.astore 4, 2) := by decide +kernel
theorem dX11_will_38 : decode cX11_will 38 = .ok (.aload 4, 2) := by decide +kernel
theorem dX11_will_40 : decode cX11_will 40 = .ok (.ifnull 22, 3) := by decide +kernel
theorem dX11_will_43 : decode cX11_will 43 = .ok (.aload 4, 2) := by decide +kernel
theorem dX11_will_45 : decode cX11_will 45 = .ok (.aload_n 0, 1) := by decide +kernel
theorem dX11_will_46 : decode cX11_will 46 = .ok (.getfield 12, 3) := by decide +kernel
theorem dX11_will_49 : decode cX11_will 49 = .ok (.iload_n 1, 1) := by decide +kernel
theorem dX11_will_50 : decode cX11_will 50 = .ok (.invokevirtual 120, 3) := by decide +kernel
theorem dX11_will_53 : decode cX11_will 53 = .ok (.ifCond .eq 9, 3) := by decide +kernel
theorem dX11_will_56 : decode cX11_will 56 = .ok (.iload_n 2, 1) := by decide +kernel
theorem dX11_will_57 : decode cX11_will 57 = .ok (.iconst 1, 1) := by decide +kernel
theorem dX11_will_58 : decode cX11_will 58 = .ok (.iload_n 3, 1) := by decide +kernel
theorem dX11_will_59 : decode cX11_will 59 = .ok (.ishl, 1) := by decide +kernel
theorem dX11_will_60 : decode cX11_will 60 = .ok (.ior, 1) := by decide +kernel
theorem dX11_will_61 : decode cX11_will 61 = .ok (.istore_n 2, 1) := by decide +kernel
theorem dX11_will_62 : decode cX11_will 62 = .ok (.iinc 3 1, 3) := by decide +kernel
theorem dX11_will_65 : decode cX11_will 65 = .ok (.goto (-48), 3) := by decide +kernel
theorem dX11_will_68 : decode cX11_will 68 = .ok (.iload_n 2, 1) := by decide +kernel
theorem dX11_will_69 : decode cX11_will 69 = .ok (.ireturn, 1) := by decide +kernel
theorem dX11_on_0 : decode cX11_on 0 = .ok (.aload_n 0, 1) := by decide +kernel
theorem dX11_on_1 : decode cX11_on 1 = .ok (.getfield 12, 3) := by decide +kernel
theorem dX11_on_4 : decode cX11_on 4 = .ok (.iload_n 1, 1) := by decide +kernel
theorem dX11_on_5 : decode cX11_on 5 = .ok (.invokevirtual 110, 3) := by decide +kernel
theorem dX11_on_8 : decode cX11_on 8 = .ok (.astore 4, 2) := by decide +kernel
theorem dX11_on_10 : decode cX11_on 10 = .ok (.aload 4, 2) := by decide +kernel
theorem dX11_on_12 : decode cX11_on 12 = .ok (.ifnull 12, 3) := by decide +kernel
theorem dX11_on_15 : decode cX11_on 15 = .ok (.iload_n 3, 1) := by decide +kernel
theorem dX11_on_16 : decode cX11_on 16 = .ok (.ifCond .lt 8, 3) := by decide +kernel
theorem dX11_on_19 : decode cX11_on 19 = .ok (.iload_n 3, 1) := by decide +kernel
theorem dX11_on_20 : decode cX11_on 20 = .ok (.iconst 4, 1) := by decide +kernel
theorem dX11_on_21 : decode cX11_on 21 = .ok (.if_icmp .le 5, 3) := by decide +kernel
theorem dX11_on_24 : decode cX11_on 24 = .ok (.iconst (-1), 1) := by decide +kernel
theorem dX11_on_25 : decode cX11_on 25 = .ok (.ireturn, 1) := by decide +kernel
theorem dX11_on_26 : decode cX11_on 26 = .ok (.iload_n 2, 1) := by decide +kernel
theorem dX11_on_27 : decode cX11_on 27 = .ok (.ifCond .lt 9, 3) := by decide +kernel
theorem dX11_on_30 : decode cX11_on 30 = .ok (.iload_n 2, 1) := by decide +kernel
theorem dX11_on_31 : decode cX11_on 31 = .ok (.bipush 60, 2) := by decide +kernel
theorem dX11_on_33 : decode cX11_on 33 = .ok (.if_icmp .le 6, 3) := by decide +kernel
theorem dX11_on_36 : decode cX11_on 36 = .ok (.bipush (-2), 2) := by decide +kernel
theorem dX11_on_38 : decode cX11_on 38 = .ok (.ireturn, 1) := by decide +kernel
theorem dX11_on_39 : decode cX11_on 39 = .ok (.aload_n 0, 1) := by decide +kernel
theorem dX11_on_40 : decode cX11_on 40 = .ok (.getfield 24, 3) := by decide +kernel
theorem dX11_on_43 : decode cX11_on 43 = .ok (.aload_n 0, 1) := by decide +kernel
theorem dX11_on_44 : decode cX11_on 44 = .ok (.getfield 12, 3) := by decide +kernel
theorem dX11_on_47 : decode cX11_on 47 = .ok (.invokevirtual 188, 3) := by decide +kernel
theorem dX11_on_50 : decode cX11_on 50 = .ok (.aload_n 0, 1) := by decide +kernel
theorem dX11_on_51 : decode cX11_on 51 = .ok (.getfield 24, 3) := by decide +kernel
theorem dX11_on_54 : decode cX11_on 54 = .ok (.aload 4, 2) := by decide +kernel
theorem dX11_on_56 : decode cX11_on 56 = .ok (.aload 4, 2) := by decide +kernel
theorem dX11_on_58 : decode cX11_on 58 = .ok (.iload_n 2, 1) := by decide +kernel
theorem dX11_on_59 : decode cX11_on 59 = .ok (.invokevirtual 192, 3) := by decide +kernel
theorem dX11_on_62 : decode cX11_on 62 = .ok (.iload_n 3, 1) := by decide +kernel
theorem dX11_on_63 : decode cX11_on 63 = .ok (.tableswitch 70 0 3 #[29, 40, 51, 62], 29) := by decide +kernel
theorem dX11_on_92 : decode cX11_on 92 = .ok (.aload_n 0, 1) := by decide +kernel
theorem dX11_on_93 : decode cX11_on 93 = .ok (.getfield 24, 3) := by decide +kernel
theorem dX11_on_96 : decode cX11_on 96 = .ok (.getfield 196, 3) := by decide +kernel
theorem dX11_on_99 : decode cX11_on 99 = .ok (.getfield 156, 3) := by decide +kernel
theorem dX11_on_102 : decode cX11_on 102 = .ok (.ireturn, 1) := by decide +kernel
theorem dX11_on_103 : decode cX11_on 103 = .ok (.aload_n 0, 1) := by decide +kernel
theorem dX11_on_104 : decode cX11_on 104 = .ok (.getfield 24, 3) := by decide +kernel
theorem dX11_on_107 : decode cX11_on 107 = .ok (.getfield 196, 3) := by decide +kernel
theorem dX11_on_110 : decode cX11_on 110 = .ok (.getfield 159, 3) := by decide +kernel
theorem dX11_on_113 : decode cX11_on 113 = .ok (.ireturn, 1) := by decide +kernel
theorem dX11_on_114 : decode cX11_on 114 = .ok (.aload_n 0, 1) := by decide +kernel
theorem dX11_on_115 : decode cX11_on 115 = .ok (.getfield 24, 3) := by decide +kernel
theorem dX11_on_118 : decode cX11_on 118 = .ok (.getfield 196, 3) := by decide +kernel
theorem dX11_on_121 : decode cX11_on 121 = .ok (.getfield 165, 3) := by decide +kernel
theorem dX11_on_124 : decode cX11_on 124 = .ok (.ireturn, 1) := by decide +kernel
theorem dX11_on_125 : decode cX11_on 125 = .ok (.aload_n 0, 1) := by decide +kernel
theorem dX11_on_126 : decode cX11_on 126 = .ok (.getfield 24, 3) := by decide +kernel
theorem dX11_on_129 : decode cX11_on 129 = .ok (.getfield 199, 3) := by decide +kernel
theorem dX11_on_132 : decode cX11_on 132 = .ok (.ireturn, 1) := by decide +kernel
theorem dX11_on_133 : decode cX11_on 133 = .ok (.aload_n 0, 1) := by decide +kernel
theorem dX11_on_134 : decode cX11_on 134 = .ok (.getfield 24, 3) := by decide +kernel
theorem dX11_on_137 : decode cX11_on 137 = .ok (.getfield 196, 3) := by decide +kernel
theorem dX11_on_140 : decode cX11_on 140 = .ok (.invokevirtual 177, 3) := by decide +kernel
theorem dX11_on_143 : decode cX11_on 143 = .ok (.ireturn, 1) := by decide +kernel
theorem dX11_with_0 : decode cX11_with 0 = .ok (.iload_n 1, 1) := by decide +kernel
theorem dX11_with_1 : decode cX11_with 1 = .ok (.ifCond .lt 8, 3) := by decide +kernel
theorem dX11_with_4 : decode cX11_with 4 = .ok (.iload_n 1, 1) := by decide +kernel
theorem dX11_with_5 : decode cX11_with 5 = .ok (.iconst 1, 1) := by decide +kernel
theorem dX11_with_6 : decode cX11_with 6 = .ok (.if_icmp .le 5, 3) := by decide +kernel
theorem dX11_with_9 : decode cX11_with 9 = .ok (.iconst (-1), 1) := by decide +kernel
theorem dX11_with_10 : decode cX11_with 10 = .ok (.ireturn, 1) := by decide +kernel
theorem dX11_with_11 : decode cX11_with 11 = .ok (.bipush (-5), 2) := by decide +kernel
theorem dX11_with_13 : decode cX11_with 13 = .ok (.istore_n 2, 1) := by decide +kernel
theorem dX11_with_14 : decode cX11_with 14 = .ok (.bipush (-5), 2) := by decide +kernel
theorem dX11_with_16 : decode cX11_with 16 = .ok (.istore_n 3, 1) := by decide +kernel
theorem dX11_with_17 : decode cX11_with 17 = .ok (.iconst 0, 1) := by decide +kernel
theorem dX11_with_18 : decode cX11_with 18 = .ok (.istore 4, 2) := by decide +kernel
theorem dX11_with_20 : decode cX11_with 20 = .ok (.iload 4, 2) := by decide +kernel
theorem dX11_with_22 : decode cX11_with 22 = .ok (.aload_n 0, 1) := by decide +kernel
theorem dX11_with_23 : decode cX11_with 23 = .ok (.getfield 12, 3) := by decide +kernel
theorem dX11_with_26 : decode cX11_with 26 = .ok (.getfield 69, 3) := by decide +kernel
theorem dX11_with_29 : decode cX11_with 29 = .ok (.if_icmp .ge 59, 3) := by decide +kernel
theorem dX11_with_32 : decode cX11_with 32 = .ok (.aload_n 0, 1) := by decide +kernel
theorem dX11_with_33 : decode cX11_with 33 = .ok (.getfield 12, 3) := by decide +kernel
theorem dX11_with_36 : decode cX11_with 36 = .ok (.iload 4, 2) := by decide +kernel
theorem dX11_with_38 : decode cX11_with 38 = .ok (.invokevirtual 110, 3) := by decide +kernel
theorem dX11_with_41 : decode cX11_with 41 = .ok (.astore 5, 2) := by decide +kernel
theorem dX11_with_43 : decode cX11_with 43 = .ok (.aload_n 0, 1) := by decide +kernel
theorem dX11_with_44 : decode cX11_with 44 = .ok (.getfield 24, 3) := by decide +kernel
theorem dX11_with_47 : decode cX11_with 47 = .ok (.aload_n 0, 1) := by decide +kernel
theorem dX11_with_48 : decode cX11_with 48 = .ok (.getfield 12, 3) := by decide +kernel
theorem dX11_with_51 : decode cX11_with 51 = .ok (.invokevirtual 188, 3) := by decide +kernel
theorem dX11_with_54 : decode cX11_with 54 = .ok (.aload_n 0, 1) := by decide +kernel
theorem dX11_with_55 : decode cX11_with 55 = .ok (.getfield 24, 3) := by decide +kernel
theorem dX11_with_58 : decode cX11_with 58 = .ok (.aload 5, 2) := by decide +kernel
theorem dX11_with_60 : decode cX11_with 60 = .ok (.aload 5, 2) := by decide +kernel
theorem dX11_with_62 : decode cX11_with 62 = .ok (.invokevirtual 202, 3) := by decide +kernel
theorem dX11_with_65 : decode cX11_with 65 = .ok (.istore 6, 2) := by decide +kernel
theorem dX11_with_67 : decode cX11_with 67 = .ok (.iload 6, 2) := by decide +kernel
theorem dX11_with_69 : decode cX11_with 69 = .ok (.iload_n 3, 1) := by decide +kernel
theorem dX11_with_70 : decode cX11_with 70 = .ok (.invokestatic 206, 3) := by decide +kernel
theorem dX11_with_73 : decode cX11_with 73 = .ok (.ifCond .eq 9, 3) := by decide +kernel
theorem dX11_with_76 : decode cX11_with 76 = .ok (.iload 4, 2) := by decide +kernel
theorem dX11_with_78 : decode cX11_with 78 = .ok (.istore_n 2, 1) := by decide +kernel
theorem dX11_with_79 : decode cX11_with 79 = .ok (.iload 6, 2) := by decide +kernel
theorem dX11_with_81 : decode cX11_with 81 = .ok (.istore_n 3, 1) := by decide +kernel
theorem dX11_with_82 : decode cX11_with 82 = .ok (.iinc 4 1, 3) := by decide +kernel
theorem dX11_with_85 : decode cX11_with 85 = .ok (.goto (-65), 3) := by decide +kernel
theorem dX11_with_88 : decode cX11_with 88 = .ok (.iload_n 1, 1) := by decide +kernel
theorem dX11_with_89 : decode cX11_with 89 = .ok (.ifCond .ne 7, 3) := by decide +kernel
theorem dX11_with_92 : decode cX11_with 92 = .ok (.iload_n 2, 1) := by decide +kernel
theorem dX11_with_93 : decode cX11_with 93 = .ok (.goto 4, 3) := by decide +kernel
theorem dX11_with_96 : decode cX11_with 96 = .ok (.iload_n 3, 1) := by decide +kernel
theorem dX11_with_97 : decode cX11_with 97 = .ok (.ireturn, 1) := by decide +kernel
theorem dX11_earlier_0 : decode cX11_earlier 0 = .ok (.iload_n 0, 1) := by decide +kernel
theorem dX11_earlier_1 : decode cX11_earlier 1 = .ok (.bipush (-5), 2) := by decide +kernel
theorem dX11_earlier_3 : decode cX11_earlier 3 = .ok (.if_icmp .eq 18, 3) := by decide +kernel
theorem dX11_earlier_6 : decode cX11_earlier 6 = .ok (.iload_n 1, 1) := by decide +kernel
theorem dX11_earlier_7 : decode cX11_earlier 7 = .ok (.bipush (-5), 2) := by decide +kernel
theorem dX11_earlier_9 : decode cX11_earlier 9 = .ok (.if_icmp .eq 8, 3) := by decide +kernel
theorem dX11_earlier_12 : decode cX11_earlier 12 = .ok (.iload_n 0, 1) := by decide +kernel
theorem dX11_earlier_13 : decode cX11_earlier 13 = .ok (.iload_n 1, 1) := by decide +kernel
theorem dX11_earlier_14 : decode cX11_earlier 14 = .ok (.if_icmp .ge 7, 3) := by decide +kernel
theorem dX11_earlier_17 : decode cX11_earlier 17 = .ok (.iconst 1, 1) := by decide +kernel
theorem dX11_earlier_18 : decode cX11_earlier 18 = .ok (.goto 4, 3) := by decide +kernel
theorem dX11_earlier_21 : decode cX11_earlier 21 = .ok (.iconst 0, 1) := by decide +kernel
theorem dX11_earlier_22 : decode cX11_earlier 22 = .ok (.ireturn, 1) := by decide +kernel
theorem dX11_both_0 : decode cX11_both 0 = .ok (.aload_n 0, 1) := by decide +kernel
theorem dX11_both_1 : decode cX11_both 1 = .ok (.getfield 12, 3) := by decide +kernel
theorem dX11_both_4 : decode cX11_both 4 = .ok (.iload_n 1, 1) := by decide +kernel
theorem dX11_both_5 : decode cX11_both 5 = .ok (.invokevirtual 110, 3) := by decide +kernel
theorem dX11_both_8 : decode cX11_both 8 = .ok (.astore_n 3, 1) := by decide +kernel
theorem dX11_both_9 : decode cX11_both 9 = .ok (.aload_n 0, 1) := by decide +kernel
theorem dX11_both_10 : decode cX11_both 10 = .ok (.getfield 12, 3) := by decide +kernel
theorem dX11_both_13 : decode cX11_both 13 = .ok (.iload_n 2, 1) := by decide +kernel
theorem dX11_both_14 : decode cX11_both 14 = .ok (.invokevirtual 110, 3) := by decide +kernel
theorem dX11_both_17 : decode cX11_both 17 = .ok (.astore 4, 2) := by decide +kernel
theorem dX11_both_19 : decode cX11_both 19 = .ok (.aload_n 3, 1) := by decide +kernel
theorem dX11_both_20 : decode cX11_both 20 = .ok (.ifnull 8, 3) := by decide +kernel
theorem dX11_both_23 : decode cX11_both 23 = .ok (.aload 4, 2) := by decide +kernel
theorem dX11_both_25 : decode cX11_both 25 = .ok (.ifnonnull 5, 3) := by decide +kernel
theorem dX11_both_28 : decode cX11_both 28 = .ok (.iconst (-1), 1) := by decide +kernel
theorem dX11_both_29 : decode cX11_both 29 = .ok (.ireturn, 1) := by decide +kernel
theorem dX11_both_30 : decode cX11_both 30 = .ok (.aload_n 0, 1) := by decide +kernel
theorem dX11_both_31 : decode cX11_both 31 = .ok (.getfield 24, 3) := by decide +kernel
theorem dX11_both_34 : decode cX11_both 34 = .ok (.aload_n 0, 1) := by decide +kernel
theorem dX11_both_35 : decode cX11_both 35 = .ok (.getfield 12, 3) := by decide +kernel
theorem dX11_both_38 : decode cX11_both 38 = .ok (.invokevirtual 188, 3) := by decide +kernel
theorem dX11_both_41 : decode cX11_both 41 = .ok (.aload_n 0, 1) := by decide +kernel
theorem dX11_both_42 : decode cX11_both 42 = .ok (.getfield 24, 3) := by decide +kernel
theorem dX11_both_45 : decode cX11_both 45 = .ok (.aload_n 3, 1) := by decide +kernel
theorem dX11_both_46 : decode cX11_both 46 = .ok (.aload 4, 2) := by decide +kernel
theorem dX11_both_48 : decode cX11_both 48 = .ok (.invokevirtual 202, 3) := by decide +kernel
theorem dX11_both_51 : decode cX11_both 51 = .ok (.ireturn, 1) := by decide +kernel
theorem dX11_limit_0 : decode cX11_limit 0 = .ok (.aload_n 0, 1) := by decide +kernel
theorem dX11_limit_1 : decode cX11_limit 1 = .ok (.getfield 12, 3) := by decide +kernel
theorem dX11_limit_4 : decode cX11_limit 4 = .ok (.iload_n 1, 1) := by decide +kernel
theorem dX11_limit_5 : decode cX11_limit 5 = .ok (.invokevirtual 110, 3) := by decide +kernel
theorem dX11_limit_8 : decode cX11_limit 8 = .ok (.astore_n 3, 1) := by decide +kernel
theorem dX11_limit_9 : decode cX11_limit 9 = .ok (.aload_n 3, 1) := by decide +kernel
theorem dX11_limit_10 : decode cX11_limit 10 = .ok (.ifnull 12, 3) := by decide +kernel
theorem dX11_limit_13 : decode cX11_limit 13 = .ok (.iload_n 2, 1) := by decide +kernel
theorem dX11_limit_14 : decode cX11_limit 14 = .ok (.ifCond .lt 8, 3) := by decide +kernel
theorem dX11_limit_17 : decode cX11_limit 17 = .ok (.iload_n 2, 1) := by decide +kernel
theorem dX11_limit_18 : decode cX11_limit 18 = .ok (.iconst 1, 1) := by decide +kernel
theorem dX11_limit_19 : decode cX11_limit 19 = .ok (.if_icmp .le 5, 3) := by decide +kernel
theorem dX11_limit_22 : decode cX11_limit 22 = .ok (.iconst (-1), 1) := by decide +kernel
theorem dX11_limit_23 : decode cX11_limit 23 = .ok (.ireturn, 1) := by decide +kernel
theorem dX11_limit_24 : decode cX11_limit 24 = .ok (.bipush (-5), 2) := by decide +kernel
theorem dX11_limit_26 : decode cX11_limit 26 = .ok (.istore 4, 2) := by decide +kernel
theorem dX11_limit_28 : decode cX11_limit 28 = .ok (.bipush (-5), 2) := by decide +kernel
theorem dX11_limit_30 : decode cX11_limit 30 = .ok (.istore 5, 2) := by decide +kernel
theorem dX11_limit_32 : decode cX11_limit 32 = .ok (.iconst 1, 1) := by decide +kernel
theorem dX11_limit_33 : decode cX11_limit 33 = .ok (.istore 6, 2) := by decide +kernel
theorem dX11_limit_35 : decode cX11_limit 35 = .ok (.iload 6, 2) := by decide +kernel
theorem dX11_limit_37 : decode cX11_limit 37 = .ok (.bipush 99, 2) := by decide +kernel
theorem dX11_limit_39 : decode cX11_limit 39 = .ok (.if_icmp .gt 61, 3) := by decide +kernel
theorem dX11_limit_42 : decode cX11_limit 42 = .ok (.aload_n 0, 1) := by decide +kernel
theorem dX11_limit_43 : decode cX11_limit 43 = .ok (.getfield 24, 3) := by decide +kernel
theorem dX11_limit_46 : decode cX11_limit 46 = .ok (.aload_n 0, 1) := by decide +kernel
theorem dX11_limit_47 : decode cX11_limit 47 = .ok (.getfield 12, 3) := by decide +kernel
theorem dX11_limit_50 : decode cX11_limit 50 = .ok (.invokevirtual 188, 3) := by decide +kernel
theorem dX11_limit_53 : decode cX11_limit 53 = .ok (.aload_n 0, 1) := by decide +kernel
theorem dX11_limit_54 : decode cX11_limit 54 = .ok (.getfield 24, 3) := by decide +kernel
theorem dX11_limit_57 : decode cX11_limit 57 = .ok (.getfield 196, 3) := by decide +kernel
theorem dX11_limit_60 : decode cX11_limit 60 = .ok (.iload 6, 2) := by decide +kernel
theorem dX11_limit_62 : decode cX11_limit 62 = .ok (.putfield 171, 3) := by decide +kernel
theorem dX11_limit_65 : decode cX11_limit 65 = .ok (.aload_n 0, 1) := by decide +kernel
theorem dX11_limit_66 : decode cX11_limit 66 = .ok (.getfield 24, 3) := by decide +kernel
theorem dX11_limit_69 : decode cX11_limit 69 = .ok (.aload_n 3, 1) := by decide +kernel
theorem dX11_limit_70 : decode cX11_limit 70 = .ok (.aload_n 3, 1) := by decide +kernel
theorem dX11_limit_71 : decode cX11_limit 71 = .ok (.invokevirtual 202, 3) := by decide +kernel
theorem dX11_limit_74 : decode cX11_limit 74 = .ok (.istore 7, 2) := by decide +kernel
theorem dX11_limit_76 : decode cX11_limit 76 = .ok (.iload 7, 2) := by decide +kernel
theorem dX11_limit_78 : decode cX11_limit 78 = .ok (.iload 5, 2) := by decide +kernel
theorem dX11_limit_80 : decode cX11_limit 80 = .ok (.invokestatic 206, 3) := by decide +kernel
theorem dX11_limit_83 : decode cX11_limit 83 = .ok (.ifCond .eq 11, 3) := by decide +kernel
theorem dX11_limit_86 : decode cX11_limit 86 = .ok (.iload 6, 2) := by decide +kernel
theorem dX11_limit_88 : decode cX11_limit 88 = .ok (.istore 4, 2) := by decide +kernel
theorem dX11_limit_90 : decode cX11_limit 90 = .ok (.iload 7, 2) := by decide +kernel
theorem dX11_limit_92 : decode cX11_limit 92 = .ok (.istore 5, 2) := by decide +kernel
theorem dX11_limit_94 : decode cX11_limit 94 = .ok (.iinc 6 1, 3) := by decide +kernel
theorem dX11_limit_97 : decode cX11_limit 97 = .ok (.goto (-62), 3) := by decide +kernel
theorem dX11_limit_100 : decode cX11_limit 100 = .ok (.iload_n 2, 1) := by decide +kernel
theorem dX11_limit_101 : decode cX11_limit 101 = .ok (.ifCond .ne 8, 3) := by decide +kernel
theorem dX11_limit_104 : decode cX11_limit 104 = .ok (.iload 4, 2) := by decide +kernel
theorem dX11_limit_106 : decode cX11_limit 106 = .ok (.goto 5, 3) := by decide +kernel
theorem dX11_limit_109 : decode cX11_limit 109 = .ok (.iload 5, 2) := by decide +kernel
theorem dX11_limit_111 : decode cX11_limit 111 = .ok (.ireturn, 1) := by decide +kernel
theorem dX11_without_0 : decode cX11_without 0 = .ok (.aload_n 0, 1) := by decide +kernel
theorem dX11_without_1 : decode cX11_without 1 = .ok (.getfield 12, 3) := by decide +kernel
theorem dX11_without_4 : decode cX11_without 4 = .ok (.iload_n 1, 1) := by decide +kernel
theorem dX11_without_5 : decode cX11_without 5 = .ok (.invokevirtual 110, 3) := by decide +kernel
theorem dX11_without_8 : decode cX11_without 8 = .ok (.astore_n 2, 1) := by decide +kernel
theorem dX11_without_9 : decode cX11_without 9 = .ok (.aload_n 2, 1) := by decide +kernel
theorem dX11_without_10 : decode cX11_without 10 = .ok (.ifnonnull 5, 3) := by decide +kernel
theorem dX11_without_13 : decode cX11_without 13 = .ok (.iconst (-1), 1) := by decide +kernel
theorem dX11_without_14 : decode cX11_without 14 = .ok (.ireturn, 1) := by decide +kernel
theorem dX11_without_15 : decode cX11_without 15 = .ok (.aload_n 0, 1) := by decide +kernel
theorem dX11_without_16 : decode cX11_without 16 = .ok (.getfield 24, 3) := by decide +kernel
theorem dX11_without_19 : decode cX11_without 19 = .ok (.aload_n 0, 1) := by decide +kernel
theorem dX11_without_20 : decode cX11_without 20 = .ok (.getfield 12, 3) := by decide +kernel
theorem dX11_without_23 : decode cX11_without 23 = .ok (.invokevirtual 188, 3) := by decide +kernel
theorem dX11_without_26 : decode cX11_without 26 = .ok (.aload_n 0, 1) := by decide +kernel
theorem dX11_without_27 : decode cX11_without 27 = .ok (.getfield 24, 3) := by decide +kernel
theorem dX11_without_30 : decode cX11_without 30 = .ok (.aload_n 2, 1) := by decide +kernel
theorem dX11_without_31 : decode cX11_without 31 = .ok (.aload_n 2, 1) := by decide +kernel
theorem dX11_without_32 : decode cX11_without 32 = .ok (.invokevirtual 202, 3) := by decide +kernel
theorem dX11_without_35 : decode cX11_without 35 = .ok (.istore_n 3, 1) := by decide +kernel
theorem dX11_without_36 : decode cX11_without 36 = .ok (.bipush (-5), 2) := by decide +kernel
theorem dX11_without_38 : decode cX11_without 38 = .ok (.istore 4, 2) := by decide +kernel
theorem dX11_without_40 : decode cX11_without 40 = .ok (.iconst 0, 1) := by decide +kernel
theorem dX11_without_41 : decode cX11_without 41 = .ok (.istore 5, 2) := by decide +kernel
theorem dX11_without_43 : decode cX11_without 43 = .ok (.iload 5, 2) := by decide +kernel
theorem dX11_without_45 : decode cX11_without 45 = .ok (.aload_n 0, 1) := by decide +kernel
theorem dX11_without_46 : decode cX11_without 46 = .ok (.getfield 12, 3) := by decide +kernel
theorem dX11_without_49 : decode cX11_without 49 = .ok (.getfield 56, 3) := by decide +kernel
theorem dX11_without_52 : decode cX11_without 52 = .ok (.if_icmp .ge 56, 3) := by decide +kernel
theorem dX11_without_55 : decode cX11_without 55 = .ok (.aload_n 0, 1) := by decide +kernel
theorem dX11_without_56 : decode cX11_without 56 = .ok (.getfield 24, 3) := by decide +kernel
theorem dX11_without_59 : decode cX11_without 59 = .ok (.aload_n 0, 1) := by decide +kernel
theorem dX11_without_60 : decode cX11_without 60 = .ok (.getfield 12, 3) := by decide +kernel
theorem dX11_without_63 : decode cX11_without 63 = .ok (.invokevirtual 188, 3) := by decide +kernel
theorem dX11_without_66 : decode cX11_without 66 = .ok (.aload_n 0, 1) := by decide +kernel
theorem dX11_without_67 : decode cX11_without 67 = .ok (.getfield 24, 3) := by decide +kernel
theorem dX11_without_70 : decode cX11_without 70 = .ok (.iload 5, 2) := by decide +kernel
theorem dX11_without_72 : decode cX11_without 72 = .ok (.invokevirtual 210, 3) := by decide +kernel
theorem dX11_without_75 : decode cX11_without 75 = .ok (.aload_n 0, 1) := by decide +kernel
theorem dX11_without_76 : decode cX11_without 76 = .ok (.getfield 24, 3) := by decide +kernel
theorem dX11_without_79 : decode cX11_without 79 = .ok (.aload_n 2, 1) := by decide +kernel
theorem dX11_without_80 : decode cX11_without 80 = .ok (.aload_n 2, 1) := by decide +kernel
theorem dX11_without_81 : decode cX11_without 81 = .ok (.invokevirtual 202, 3) := by decide +kernel
theorem dX11_without_84 : decode cX11_without 84 = .ok (.istore 6, 2) := by decide +kernel
theorem dX11_without_86 : decode cX11_without 86 = .ok (.iload 6, 2) := by decide +kernel
theorem dX11_without_88 : decode cX11_without 88 = .ok (.iload_n 3, 1) := by decide +kernel
theorem dX11_without_89 : decode cX11_without 89 = .ok (.invokestatic 206, 3) := by decide +kernel
theorem dX11_without_92 : decode cX11_without 92 = .ok (.ifCond .eq 10, 3) := by decide +kernel
theorem dX11_without_95 : decode cX11_without 95 = .ok (.iload 5, 2) := by decide +kernel
theorem dX11_without_97 : decode cX11_without 97 = .ok (.istore 4, 2) := by decide +kernel
theorem dX11_without_99 : decode cX11_without 99 = .ok (.iload 6, 2) := by decide +kernel
theorem dX11_without_101 : decode cX11_without 101 = .ok (.istore_n 3, 1) := by decide +kernel
theorem dX11_without_102 : decode cX11_without 102 = .ok (.iinc 5 1, 3) := by decide +kernel
theorem dX11_without_105 : decode cX11_without 105 = .ok (.goto (-62), 3) := by decide +kernel
theorem dX11_without_108 : decode cX11_without 108 = .ok (.iload 4, 2) := by decide +kernel
theorem dX11_without_110 : decode cX11_without 110 = .ok (.ireturn, 1) := by decide +kernel
theorem dX11_order_0 : decode cX11_order 0 = .ok (.aload_n 0, 1) := by decide +kernel
theorem dX11_order_1 : decode cX11_order 1 = .ok (.getfield 12, 3) := by decide +kernel
theorem dX11_order_4 : decode cX11_order 4 = .ok (.iload_n 1, 1) := by decide +kernel
theorem dX11_order_5 : decode cX11_order 5 = .ok (.invokevirtual 110, 3) := by decide +kernel
theorem dX11_order_8 : decode cX11_order 8 = .ok (.astore_n 3, 1) := by decide +kernel
theorem dX11_order_9 : decode cX11_order 9 = .ok (.aload_n 3, 1) := by decide +kernel
theorem dX11_order_10 : decode cX11_order 10 = .ok (.ifnull 13, 3) := by decide +kernel
theorem dX11_order_13 : decode cX11_order 13 = .ok (.iload_n 2, 1) := by decide +kernel
theorem dX11_order_14 : decode cX11_order 14 = .ok (.iconst (-1), 1) := by decide +kernel
theorem dX11_order_15 : decode cX11_order 15 = .ok (.if_icmp .lt 8, 3) := by decide +kernel
theorem dX11_order_18 : decode cX11_order 18 = .ok (.iload_n 2, 1) := by decide +kernel
theorem dX11_order_19 : decode cX11_order 19 = .ok (.iconst 5, 1) := by decide +kernel
theorem dX11_order_20 : decode cX11_order 20 = .ok (.if_icmp .lt 5, 3) := by decide +kernel
theorem dX11_order_23 : decode cX11_order 23 = .ok (.iconst (-1), 1) := by decide +kernel
theorem dX11_order_24 : decode cX11_order 24 = .ok (.ireturn, 1) := by decide +kernel
theorem dX11_order_25 : decode cX11_order 25 = .ok (.aload_n 0, 1) := by decide +kernel
theorem dX11_order_26 : decode cX11_order 26 = .ok (.getfield 12, 3) := by decide +kernel
theorem dX11_order_29 : decode cX11_order 29 = .ok (.getfield 56, 3) := by decide +kernel
theorem dX11_order_32 : decode cX11_order 32 = .ok (.iconst 5, 1) := by decide +kernel
theorem dX11_order_33 : decode cX11_order 33 = .ok (.if_icmp .le 6, 3) := by decide +kernel
theorem dX11_order_36 : decode cX11_order 36 = .ok (.bipush (-9), 2) := by decide +kernel
theorem dX11_order_38 : decode cX11_order 38 = .ok (.ireturn, 1) := by decide +kernel
theorem dX11_order_39 : decode cX11_order 39 = .ok (.aload_n 0, 1) := by decide +kernel
theorem dX11_order_40 : decode cX11_order 40 = .ok (.aload_n 3, 1) := by decide +kernel
theorem dX11_order_41 : decode cX11_order 41 = .ok (.invokevirtual 214, 3) := by decide +kernel
theorem dX11_order_44 : decode cX11_order 44 = .ok (.istore 4, 2) := by decide +kernel
theorem dX11_order_46 : decode cX11_order 46 = .ok (.iload_n 2, 1) := by decide +kernel
theorem dX11_order_47 : decode cX11_order 47 = .ok (.ifCond .ge 6, 3) := by decide +kernel
theorem dX11_order_50 : decode cX11_order 50 = .ok (.iload 4, 2) := by decide +kernel
theorem dX11_order_52 : decode cX11_order 52 = .ok (.ireturn, 1) := by decide +kernel
theorem dX11_order_53 : decode cX11_order 53 = .ok (.iload_n 2, 1) := by decide +kernel
theorem dX11_order_54 : decode cX11_order 54 = .ok (.aload_n 0, 1) := by decide +kernel
theorem dX11_order_55 : decode cX11_order 55 = .ok (.getfield 12, 3) := by decide +kernel
theorem dX11_order_58 : decode cX11_order 58 = .ok (.getfield 56, 3) := by decide +kernel
theorem dX11_order_61 : decode cX11_order 61 = .ok (.if_icmp .ge 12, 3) := by decide +kernel
theorem dX11_order_64 : decode cX11_order 64 = .ok (.aload_n 0, 1) := by decide +kernel
theorem dX11_order_65 : decode cX11_order 65 = .ok (.getfield 53, 3) := by decide +kernel
theorem dX11_order_68 : decode cX11_order 68 = .ok (.iload_n 2, 1) := by decide +kernel
theorem dX11_order_69 : decode cX11_order 69 = .ok (.iaload, 1) := by decide +kernel
theorem dX11_order_70 : decode cX11_order 70 = .ok (.goto 5, 3) := by decide +kernel
theorem dX11_order_73 : decode cX11_order 73 = .ok (.bipush (-5), 2) := by decide +kernel
theorem dX11_order_75 : decode cX11_order 75 = .ok (.ireturn, 1) := by decide +kernel
theorem dX11_bestOrder_0 : decode cX11_bestOrder 0 = .ok (.aload_n 0, 1) := by decide +kernel
theorem dX11_bestOrder_1 : decode cX11_bestOrder 1 = .ok (.getfield 12, 3) := by decide +kernel
theorem dX11_bestOrder_4 : decode cX11_bestOrder 4 = .ok (.getfield 56, 3) := by decide +kernel
theorem dX11_bestOrder_7 : decode cX11_bestOrder 7 = .ok (.istore_n 2, 1) := by decide +kernel
theorem dX11_bestOrder_8 : decode cX11_bestOrder 8 = .ok (.iconst (-1), 1) := by decide +kernel
theorem dX11_bestOrder_9 : decode cX11_bestOrder 9 = .ok (.istore_n 3, 1) := by decide +kernel
theorem dX11_bestOrder_10 : decode cX11_bestOrder 10 = .ok (.iconst 0, 1) := by decide +kernel
theorem dX11_bestOrder_11 : decode cX11_bestOrder 11 = .ok (.istore 4, 2) := by decide +kernel
theorem dX11_bestOrder_13 : decode cX11_bestOrder 13 = .ok (.iload 4, 2) := by decide +kernel
theorem dX11_bestOrder_15 : decode cX11_bestOrder 15 = .ok (.iload_n 2, 1) := by decide +kernel
theorem dX11_bestOrder_16 : decode cX11_bestOrder 16 = .ok (.if_icmp .ge 24, 3) := by decide +kernel
theorem dX11_bestOrder_19 : decode cX11_bestOrder 19 = .ok (.iload 4, 2) := by decide +kernel
theorem dX11_bestOrder_21 : decode cX11_bestOrder 21 = .ok (.iconst 5, 1) := by decide +kernel
theorem dX11_bestOrder_22 : decode cX11_bestOrder 22 = .ok (.if_icmp .ge 18, 3) := by decide +kernel
theorem dX11_bestOrder_25 : decode cX11_bestOrder 25 = .ok (.aload_n 0, 1) := by decide +kernel
theorem dX11_bestOrder_26 : decode cX11_bestOrder 26 = .ok (.getfield 50, 3) := by decide +kernel
theorem dX11_bestOrder_29 : decode cX11_bestOrder 29 = .ok (.iload 4, 2) := by decide +kernel
theorem dX11_bestOrder_31 : decode cX11_bestOrder 31 = .ok (.iload 4, 2) := by decide +kernel
theorem dX11_bestOrder_33 : decode cX11_bestOrder 33 = .ok (.iastore, 1) := by decide +kernel
theorem dX11_bestOrder_34 : decode cX11_bestOrder 34 = .ok (.iinc 4 1, 3) := by decide +kernel
theorem dX11_bestOrder_37 : decode cX11_bestOrder 37 = .ok (.goto (-24), 3) := by decide +kernel
theorem dX11_bestOrder_40 : decode cX11_bestOrder 40 = .ok (.iconst 1, 1) := by decide +kernel
theorem dX11_bestOrder_41 : decode cX11_bestOrder 41 = .ok (.istore 4, 2) := by decide +kernel
theorem dX11_bestOrder_43 : decode cX11_bestOrder 43 = .ok (.iconst 0, 1) := by decide +kernel
theorem dX11_bestOrder_44 : decode cX11_bestOrder 44 = .ok (.istore 5, 2) := by decide +kernel
theorem dX11_bestOrder_46 : decode cX11_bestOrder 46 = .ok (.iload 5, 2) := by decide +kernel
theorem dX11_bestOrder_48 : decode cX11_bestOrder 48 = .ok (.bipush 120, 2) := by decide +kernel
theorem dX11_bestOrder_50 : decode cX11_bestOrder 50 = .ok (.if_icmp .ge 90, 3) := by decide +kernel
theorem dX11_bestOrder_53 : decode cX11_bestOrder 53 = .ok (.iload 4, 2) := by decide +kernel
theorem dX11_bestOrder_55 : decode cX11_bestOrder 55 = .ok (.ifCond .eq 85, 3) := by decide +kernel
theorem dX11_bestOrder_58 : decode cX11_bestOrder 58 = .ok (.aload_n 0, 1) := by decide +kernel
theorem dX11_bestOrder_59 : decode cX11_bestOrder 59 = .ok (.getfield 24, 3) := by decide +kernel
theorem dX11_bestOrder_62 : decode cX11_bestOrder 62 = .ok (.aload_n 0, 1) := by decide +kernel
theorem dX11_bestOrder_63 : decode cX11_bestOrder 63 = .ok (.getfield 12, 3) := by decide +kernel
theorem dX11_bestOrder_66 : decode cX11_bestOrder 66 = .ok (.invokevirtual 188, 3) := by decide +kernel
theorem dX11_bestOrder_69 : decode cX11_bestOrder 69 = .ok (.aload_n 0, 1) := by decide +kernel
theorem dX11_bestOrder_70 : decode cX11_bestOrder 70 = .ok (.getfield 24, 3) := by decide +kernel
theorem dX11_bestOrder_73 : decode cX11_bestOrder 73 = .ok (.aload_n 0, 1) := by decide +kernel
theorem dX11_bestOrder_74 : decode cX11_bestOrder 74 = .ok (.getfield 50, 3) := by decide +kernel
theorem dX11_bestOrder_77 : decode cX11_bestOrder 77 = .ok (.invokevirtual 218, 3) := by decide +kernel
theorem dX11_bestOrder_80 : decode cX11_bestOrder 80 = .ok (.aload_n 0, 1) := by decide +kernel
theorem dX11_bestOrder_81 : decode cX11_bestOrder 81 = .ok (.getfield 24, 3) := by decide +kernel
theorem dX11_bestOrder_84 : decode cX11_bestOrder 84 = .ok (.aload_n 1, 1) := by decide +kernel
theorem dX11_bestOrder_85 : decode cX11_bestOrder 85 = .ok (.aload_n 1, 1) := by decide +kernel
theorem dX11_bestOrder_86 : decode cX11_bestOrder 86 = .ok (.bipush 60, 2) := by decide +kernel
theorem dX11_bestOrder_88 : decode cX11_bestOrder 88 = .ok (.invokevirtual 192, 3) := by decide +kernel
theorem dX11_bestOrder_91 : decode cX11_bestOrder 91 = .ok (.aload_n 0, 1) := by decide +kernel
theorem dX11_bestOrder_92 : decode cX11_bestOrder 92 = .ok (.getfield 24, 3) := by decide +kernel
theorem dX11_bestOrder_95 : decode cX11_bestOrder 95 = .ok (.getfield 222, 3) := by decide +kernel
theorem dX11_bestOrder_98 : decode cX11_bestOrder 98 = .ok (.iload_n 3, 1) := by decide +kernel
theorem dX11_bestOrder_99 : decode cX11_bestOrder 99 = .ok (.if_icmp .le 25, 3) := by decide +kernel
theorem dX11_bestOrder_102 : decode cX11_bestOrder 102 = .ok (.aload_n 0, 1) := by decide +kernel
theorem dX11_bestOrder_103 : decode cX11_bestOrder 103 = .ok (.getfield 24, 3) := by decide +kernel
theorem dX11_bestOrder_106 : decode cX11_bestOrder 106 = .ok (.getfield 222, 3) := by decide +kernel
theorem dX11_bestOrder_109 : decode cX11_bestOrder 109 = .ok (.istore_n 3, 1) := by decide +kernel
theorem dX11_bestOrder_110 : decode cX11_bestOrder 110 = .ok (.aload_n 0, 1) := by decide +kernel
theorem dX11_bestOrder_111 : decode cX11_bestOrder 111 = .ok (.getfield 50, 3) := by decide +kernel
theorem dX11_bestOrder_114 : decode cX11_bestOrder 114 = .ok (.iconst 0, 1) := by decide +kernel
theorem dX11_bestOrder_115 : decode cX11_bestOrder 115 = .ok (.aload_n 0, 1) := by decide +kernel
theorem dX11_bestOrder_116 : decode cX11_bestOrder 116 = .ok (.getfield 53, 3) := by decide +kernel
theorem dX11_bestOrder_119 : decode cX11_bestOrder 119 = .ok (.iconst 0, 1) := by decide +kernel
theorem dX11_bestOrder_120 : decode cX11_bestOrder 120 = .ok (.iconst 5, 1) := by decide +kernel
theorem dX11_bestOrder_121 : decode cX11_bestOrder 121 = .ok (.invokestatic 224, 3) := by decide +kernel
theorem dX11_bestOrder_124 : decode cX11_bestOrder 124 = .ok (.aload_n 0, 1) := by decide +kernel
theorem dX11_bestOrder_125 : decode cX11_bestOrder 125 = .ok (.getfield 50, 3) := by decide +kernel
theorem dX11_bestOrder_128 : decode cX11_bestOrder 128 = .ok (.iload_n 2, 1) := by decide +kernel
theorem dX11_bestOrder_129 : decode cX11_bestOrder 129 = .ok (.invokestatic 230, 3) := by decide +kernel
theorem dX11_bestOrder_132 : decode cX11_bestOrder 132 = .ok (.istore 4, 2) := by decide +kernel
theorem dX11_bestOrder_134 : decode cX11_bestOrder 134 = .ok (.iinc 5 1, 3) := by decide +kernel
theorem dX11_bestOrder_137 : decode cX11_bestOrder 137 = .ok (.goto (-91), 3) := by decide +kernel
theorem dX11_bestOrder_140 : decode cX11_bestOrder 140 = .ok (.iload_n 3, 1) := by decide +kernel
theorem dX11_bestOrder_141 : decode cX11_bestOrder 141 = .ok (.ireturn, 1) := by decide +kernel
theorem dX11_nextOrder_0 : decode cX11_nextOrder 0 = .ok (.iload_n 1, 1) := by decide +kernel
theorem dX11_nextOrder_1 : decode cX11_nextOrder 1 = .ok (.aload_n 0, 1) := by decide +kernel
theorem dX11_nextOrder_2 : decode cX11_nextOrder 2 = .ok (.arraylength, 1) := by decide +kernel
theorem dX11_nextOrder_3 : decode cX11_nextOrder 3 = .ok (.if_icmp .le 5, 3) := by decide +kernel
theorem dX11_nextOrder_6 : decode cX11_nextOrder 6 = .ok (.iconst 0, 1) := by decide +kernel
theorem dX11_nextOrder_7 : decode cX11_nextOrder 7 = .ok (.ireturn, 1) := by decide +kernel
theorem dX11_nextOrder_8 : decode cX11_nextOrder 8 = .ok (.iload_n 1, 1) := by decide +kernel
theorem dX11_nextOrder_9 : decode cX11_nextOrder 9 = .ok (.iconst 2, 1) := by decide +kernel
theorem dX11_nextOrder_10 : decode cX11_nextOrder 10 = .ok (.isub, 1) := by decide +kernel
theorem dX11_nextOrder_11 : decode cX11_nextOrder 11 = .ok (.istore_n 2, 1) := by decide +kernel
theorem dX11_nextOrder_12 : decode cX11_nextOrder 12 = .ok (.iload_n 2, 1) := by decide +kernel
theorem dX11_nextOrder_13 : decode cX11_nextOrder 13 = .ok (.ifCond .lt 20, 3) := by decide +kernel
theorem dX11_nextOrder_16 : decode cX11_nextOrder 16 = .ok (.aload_n 0, 1) := by decide +kernel
theorem dX11_nextOrder_17 : decode cX11_nextOrder 17 = .ok (.iload_n 2, 1) := by decide +kernel
theorem dX11_nextOrder_18 : decode cX11_nextOrder 18 = .ok (.iaload, 1) := by decide +kernel
theorem dX11_nextOrder_19 : decode cX11_nextOrder 19 = .ok (.aload_n 0, 1) := by decide +kernel
theorem dX11_nextOrder_20 : decode cX11_nextOrder 20 = .ok (.iload_n 2, 1) := by decide +kernel
theorem dX11_nextOrder_21 : decode cX11_nextOrder 21 = .ok (.iconst 1, 1) := by decide +kernel
theorem dX11_nextOrder_22 : decode cX11_nextOrder 22 = .ok (.iadd, 1) := by decide +kernel
theorem dX11_nextOrder_23 : decode cX11_nextOrder 23 = .ok (.iaload, 1) := by decide +kernel
theorem dX11_nextOrder_24 : decode cX11_nextOrder 24 = .ok (.if_icmp .le 9, 3) := by decide +kernel
theorem dX11_nextOrder_27 : decode cX11_nextOrder 27 = .ok (.iinc 2 (-1), 3) := by decide +kernel
theorem dX11_nextOrder_30 : decode cX11_nextOrder 30 = .ok (.goto (-18), 3) := by decide +kernel
theorem dX11_nextOrder_33 : decode cX11_nextOrder 33 = .ok (.iload_n 2, 1) := by decide +kernel
theorem dX11_nextOrder_34 : decode cX11_nextOrder 34 = .ok (.ifCond .ge 5, 3) := by decide +kernel
theorem dX11_nextOrder_37 : decode cX11_nextOrder 37 = .ok (.iconst 0, 1) := by decide +kernel
theorem dX11_nextOrder_38 : decode cX11_nextOrder 38 = .ok (.ireturn, 1) := by decide +kernel
theorem dX11_nextOrder_39 : decode cX11_nextOrder 39 = .ok (.iload_n 1, 1) := by decide +kernel
theorem dX11_nextOrder_40 : decode cX11_nextOrder 40 = .ok (.iconst 1, 1) := by decide +kernel
theorem dX11_nextOrder_41 : decode cX11_nextOrder 41 = .ok (.isub, 1) := by decide +kernel
theorem dX11_nextOrder_42 : decode cX11_nextOrder 42 = .ok (.istore_n 3, 1) := by decide +kernel
theorem dX11_nextOrder_43 : decode cX11_nextOrder 43 = .ok (.iload_n 3, 1) := by decide +kernel
theorem dX11_nextOrder_44 : decode cX11_nextOrder 44 = .ok (.iload_n 2, 1) := by decide +kernel
theorem dX11_nextOrder_45 : decode cX11_nextOrder 45 = .ok (.if_icmp .le 18, 3) := by decide +kernel
theorem dX11_nextOrder_48 : decode cX11_nextOrder 48 = .ok (.aload_n 0, 1) := by decide +kernel
theorem dX11_nextOrder_49 : decode cX11_nextOrder 49 = .ok (.iload_n 3, 1) := by decide +kernel
theorem dX11_nextOrder_50 : decode cX11_nextOrder 50 = .ok (.iaload, 1) := by decide +kernel
theorem dX11_nextOrder_51 : decode cX11_nextOrder 51 = .ok (.aload_n 0, 1) := by decide +kernel
theorem dX11_nextOrder_52 : decode cX11_nextOrder 52 = .ok (.iload_n 2, 1) := by decide +kernel
theorem dX11_nextOrder_53 : decode cX11_nextOrder 53 = .ok (.iaload, 1) := by decide +kernel
theorem dX11_nextOrder_54 : decode cX11_nextOrder 54 = .ok (.if_icmp .ge 9, 3) := by decide +kernel
theorem dX11_nextOrder_57 : decode cX11_nextOrder 57 = .ok (.iinc 3 (-1), 3) := by decide +kernel
theorem dX11_nextOrder_60 : decode cX11_nextOrder 60 = .ok (.goto (-17), 3) := by decide +kernel
theorem dX11_nextOrder_63 : decode cX11_nextOrder 63 = .ok (.aload_n 0, 1) := by decide +kernel
theorem dX11_nextOrder_64 : decode cX11_nextOrder 64 = .ok (.iload_n 2, 1) := by decide +kernel
theorem dX11_nextOrder_65 : decode cX11_nextOrder 65 = .ok (.iload_n 3, 1) := by decide +kernel
theorem dX11_nextOrder_66 : decode cX11_nextOrder 66 = .ok (.invokestatic 234, 3) := by decide +kernel
theorem dX11_nextOrder_69 : decode cX11_nextOrder 69 = .ok (.iload_n 2, 1) := by decide +kernel
theorem dX11_nextOrder_70 : decode cX11_nextOrder 70 = .ok (.iconst 1, 1) := by decide +kernel
theorem dX11_nextOrder_71 : decode cX11_nextOrder 71 = .ok (.iadd, 1) := by decide +kernel
theorem dX11_nextOrder_72 : decode cX11_nextOrder 72 = .ok (.istore 4, 2) := by decide +kernel
theorem dX11_nextOrder_74 : decode cX11_nextOrder 74 = .ok (.iload_n 1, 1) := by decide +kernel
theorem dX11_nextOrder_75 : decode cX11_nextOrder 75 = .ok (.iconst 1, 1) := by decide +kernel
theorem dX11_nextOrder_76 : decode cX11_nextOrder 76 = .ok (.isub, 1) := by decide +kernel
theorem dX11_nextOrder_77 : decode cX11_nextOrder 77 = .ok (.istore 5, 2) := by decide +kernel
theorem dX11_nextOrder_79 : decode cX11_nextOrder 79 = .ok (.iload 4, 2) := by decide +kernel
theorem dX11_nextOrder_81 : decode cX11_nextOrder 81 = .ok (.iload 5, 2) := by decide +kernel
theorem dX11_nextOrder_83 : decode cX11_nextOrder 83 = .ok (.if_icmp .ge 20, 3) := by decide +kernel
theorem dX11_nextOrder_86 : decode cX11_nextOrder 86 = .ok (.aload_n 0, 1) := by decide +kernel
theorem dX11_nextOrder_87 : decode cX11_nextOrder 87 = .ok (.iload 4, 2) := by decide +kernel
theorem dX11_nextOrder_89 : decode cX11_nextOrder 89 = .ok (.iload 5, 2) := by decide +kernel
theorem dX11_nextOrder_91 : decode cX11_nextOrder 91 = .ok (.invokestatic 234, 3) := by decide +kernel
theorem dX11_nextOrder_94 : decode cX11_nextOrder 94 = .ok (.iinc 4 1, 3) := by decide +kernel
theorem dX11_nextOrder_97 : decode cX11_nextOrder 97 = .ok (.iinc 5 (-1), 3) := by decide +kernel
theorem dX11_nextOrder_100 : decode cX11_nextOrder 100 = .ok (.goto (-21), 3) := by decide +kernel
theorem dX11_nextOrder_103 : decode cX11_nextOrder 103 = .ok (.iconst 1, 1) := by decide +kernel
theorem dX11_nextOrder_104 : decode cX11_nextOrder 104 = .ok (.ireturn, 1) := by decide +kernel
theorem dX11_swap_0 : decode cX11_swap 0 = .ok (.iload_n 1, 1) := by decide +kernel
theorem dX11_swap_1 : decode cX11_swap 1 = .ok (.ifCond .lt 19, 3) := by decide +kernel
theorem dX11_swap_4 : decode cX11_swap 4 = .ok (.iload_n 2, 1) := by decide +kernel
theorem dX11_swap_5 : decode cX11_swap 5 = .ok (.ifCond .lt 15, 3) := by decide +kernel
theorem dX11_swap_8 : decode cX11_swap 8 = .ok (.iload_n 1, 1) := by decide +kernel
theorem dX11_swap_9 : decode cX11_swap 9 = .ok (.aload_n 0, 1) := by decide +kernel
theorem dX11_swap_10 : decode cX11_swap 10 = .ok (.arraylength, 1) := by decide +kernel
theorem dX11_swap_11 : decode cX11_swap 11 = .ok (.if_icmp .ge 9, 3) := by decide +kernel
theorem dX11_swap_14 : decode cX11_swap 14 = .ok (.iload_n 2, 1) := by decide +kernel
theorem dX11_swap_15 : decode cX11_swap 15 = .ok (.aload_n 0, 1) := by decide +kernel
theorem dX11_swap_16 : decode cX11_swap 16 = .ok (.arraylength, 1) := by decide +kernel
theorem dX11_swap_17 : decode cX11_swap 17 = .ok (.if_icmp .lt 4, 3) := by decide +kernel
theorem dX11_swap_20 : decode cX11_swap 20 = .ok (.return_, 1) := by decide +kernel
theorem dX11_swap_21 : decode cX11_swap 21 = .ok (.aload_n 0, 1) := by decide +kernel
theorem dX11_swap_22 : decode cX11_swap 22 = .ok (.iload_n 1, 1) := by decide +kernel
theorem dX11_swap_23 : decode cX11_swap 23 = .ok (.iaload, 1) := by decide +kernel
theorem dX11_swap_24 : decode cX11_swap 24 = .ok (.istore_n 3, 1) := by decide +kernel
theorem dX11_swap_25 : decode cX11_swap 25 = .ok (.aload_n 0, 1) := by decide +kernel
theorem dX11_swap_26 : decode cX11_swap 26 = .ok (.iload_n 1, 1) := by decide +kernel
theorem dX11_swap_27 : decode cX11_swap 27 = .ok (.aload_n 0, 1) := by decide +kernel
theorem dX11_swap_28 : decode cX11_swap 28 = .ok (.iload_n 2, 1) := by decide +kernel
theorem dX11_swap_29 : decode cX11_swap 29 = .ok (.iaload, 1) := by decide +kernel
theorem dX11_swap_30 : decode cX11_swap 30 = .ok (.iastore, 1) := by decide +kernel
theorem dX11_swap_31 : decode cX11_swap 31 = .ok (.aload_n 0, 1) := by decide +kernel
theorem dX11_swap_32 : decode cX11_swap 32 = .ok (.iload_n 2, 1) := by decide +kernel
theorem dX11_swap_33 : decode cX11_swap 33 = .ok (.iload_n 3, 1) := by decide +kernel
theorem dX11_swap_34 : decode cX11_swap 34 = .ok (.iastore, 1) := by decide +kernel
theorem dX11_swap_35 : decode cX11_swap 35 = .ok (.return_, 1) := by decide +kernel
theorem dX11_coupons_0 : decode cX11_coupons 0 = .ok (.aload_n 0, 1) := by decide +kernel
theorem dX11_coupons_1 : decode cX11_coupons 1 = .ok (.getfield 12, 3) := by decide +kernel
theorem dX11_coupons_4 : decode cX11_coupons 4 = .ok (.iload_n 1, 1) := by decide +kernel
theorem dX11_coupons_5 : decode cX11_coupons 5 = .ok (.invokevirtual 110, 3) := by decide +kernel
theorem dX11_coupons_8 : decode cX11_coupons 8 = .ok (.astore_n 2, 1) := by decide +kernel
theorem dX11_coupons_9 : decode cX11_coupons 9 = .ok (.aload_n 2, 1) := by decide +kernel
theorem dX11_coupons_10 : decode cX11_coupons 10 = .ok (.ifnonnull 5, 3) := by decide +kernel
theorem dX11_coupons_13 : decode cX11_coupons 13 = .ok (.iconst (-1), 1) := by decide +kernel
theorem dX11_coupons_14 : decode cX11_coupons 14 = .ok (.ireturn, 1) := by decide +kernel
theorem dX11_coupons_15 : decode cX11_coupons 15 = .ok (.iconst 0, 1) := by decide +kernel
theorem dX11_coupons_16 : decode cX11_coupons 16 = .ok (.istore_n 3, 1) := by decide +kernel
theorem dX11_coupons_17 : decode cX11_coupons 17 = .ok (.iload_n 3, 1) := by decide +kernel
theorem dX11_coupons_18 : decode cX11_coupons 18 = .ok (.bipush 20, 2) := by decide +kernel
theorem dX11_coupons_20 : decode cX11_coupons 20 = .ok (.if_icmp .gt 44, 3) := by decide +kernel
theorem dX11_coupons_23 : decode cX11_coupons 23 = .ok (.aload_n 0, 1) := by decide +kernel
theorem dX11_coupons_24 : decode cX11_coupons 24 = .ok (.getfield 24, 3) := by decide +kernel
theorem dX11_coupons_27 : decode cX11_coupons 27 = .ok (.aload_n 0, 1) := by decide +kernel
theorem dX11_coupons_28 : decode cX11_coupons 28 = .ok (.getfield 12, 3) := by decide +kernel
theorem dX11_coupons_31 : decode cX11_coupons 31 = .ok (.invokevirtual 188, 3) := by decide +kernel
theorem dX11_coupons_34 : decode cX11_coupons 34 = .ok (.aload_n 0, 1) := by decide +kernel
theorem dX11_coupons_35 : decode cX11_coupons 35 = .ok (.getfield 24, 3) := by decide +kernel
theorem dX11_coupons_38 : decode cX11_coupons 38 = .ok (.iload_n 3, 1) := by decide +kernel
theorem dX11_coupons_39 : decode cX11_coupons 39 = .ok (.putfield 238, 3) := by decide +kernel
theorem dX11_coupons_42 : decode cX11_coupons 42 = .ok (.aload_n 0, 1) := by decide +kernel
theorem dX11_coupons_43 : decode cX11_coupons 43 = .ok (.getfield 24, 3) := by decide +kernel
theorem dX11_coupons_46 : decode cX11_coupons 46 = .ok (.aload_n 2, 1) := by decide +kernel
theorem dX11_coupons_47 : decode cX11_coupons 47 = .ok (.aload_n 2, 1) := by decide +kernel
theorem dX11_coupons_48 : decode cX11_coupons 48 = .ok (.invokevirtual 202, 3) := by decide +kernel
theorem dX11_coupons_51 : decode cX11_coupons 51 = .ok (.bipush (-5), 2) := by decide +kernel
theorem dX11_coupons_53 : decode cX11_coupons 53 = .ok (.if_icmp .eq 5, 3) := by decide +kernel
theorem dX11_coupons_56 : decode cX11_coupons 56 = .ok (.iload_n 3, 1) := by decide +kernel
theorem dX11_coupons_57 : decode cX11_coupons 57 = .ok (.ireturn, 1) := by decide +kernel
theorem dX11_coupons_58 : decode cX11_coupons 58 = .ok (.iinc 3 1, 3) := by decide +kernel
theorem dX11_coupons_61 : decode cX11_coupons 61 = .ok (.goto (-44), 3) := by decide +kernel
theorem dX11_coupons_64 : decode cX11_coupons 64 = .ok (.bipush (-5), 2) := by decide +kernel
theorem dX11_coupons_66 : decode cX11_coupons 66 = .ok (.ireturn, 1) := by decide +kernel
theorem dX11_evenings_0 : decode cX11_evenings 0 = .ok (.aload_n 0, 1) := by decide +kernel
theorem dX11_evenings_1 : decode cX11_evenings 1 = .ok (.getfield 12, 3) := by decide +kernel
theorem dX11_evenings_4 : decode cX11_evenings 4 = .ok (.iload_n 1, 1) := by decide +kernel
theorem dX11_evenings_5 : decode cX11_evenings 5 = .ok (.invokevirtual 110, 3) := by decide +kernel
theorem dX11_evenings_8 : decode cX11_evenings 8 = .ok (.astore 4, 2) := by decide +kernel
theorem dX11_evenings_10 : decode cX11_evenings 10 = .ok (.aload 4, 2) := by decide +kernel
theorem dX11_evenings_12 : decode cX11_evenings 12 = .ok (.ifnull 12, 3) := by decide +kernel
theorem dX11_evenings_15 : decode cX11_evenings 15 = .ok (.iload_n 3, 1) := by decide +kernel
theorem dX11_evenings_16 : decode cX11_evenings 16 = .ok (.ifCond .lt 8, 3) := by decide +kernel
theorem dX11_evenings_19 : decode cX11_evenings 19 = .ok (.iload_n 3, 1) := by decide +kernel
theorem dX11_evenings_20 : decode cX11_evenings 20 = .ok (.iconst 2, 1) := by decide +kernel
theorem dX11_evenings_21 : decode cX11_evenings 21 = .ok (.if_icmp .le 5, 3) := by decide +kernel
theorem dX11_evenings_24 : decode cX11_evenings 24 = .ok (.iconst (-1), 1) := by decide +kernel
theorem dX11_evenings_25 : decode cX11_evenings 25 = .ok (.ireturn, 1) := by decide +kernel
theorem dX11_evenings_26 : decode cX11_evenings 26 = .ok (.iload_n 2, 1) := by decide +kernel
theorem dX11_evenings_27 : decode cX11_evenings 27 = .ok (.iconst 1, 1) := by decide +kernel
theorem dX11_evenings_28 : decode cX11_evenings 28 = .ok (.if_icmp .lt 9, 3) := by decide +kernel
theorem dX11_evenings_31 : decode cX11_evenings 31 = .ok (.iload_n 2, 1) := by decide +kernel
theorem dX11_evenings_32 : decode cX11_evenings 32 = .ok (.bipush 10, 2) := by decide +kernel
theorem dX11_evenings_34 : decode cX11_evenings 34 = .ok (.if_icmp .le 6, 3) := by decide +kernel
theorem dX11_evenings_37 : decode cX11_evenings 37 = .ok (.bipush (-2), 2) := by decide +kernel
theorem dX11_evenings_39 : decode cX11_evenings 39 = .ok (.ireturn, 1) := by decide +kernel
theorem dX11_evenings_40 : decode cX11_evenings 40 = .ok (.iconst 0, 1) := by decide +kernel
theorem dX11_evenings_41 : decode cX11_evenings 41 = .ok (.istore 5, 2) := by decide +kernel
theorem dX11_evenings_43 : decode cX11_evenings 43 = .ok (.iconst 0, 1) := by decide +kernel
theorem dX11_evenings_44 : decode cX11_evenings 44 = .ok (.istore 6, 2) := by decide +kernel
theorem dX11_evenings_46 : decode cX11_evenings 46 = .ok (.aload_n 0, 1) := by decide +kernel
theorem dX11_evenings_47 : decode cX11_evenings 47 = .ok (.getfield 24, 3) := by decide +kernel
theorem dX11_evenings_50 : decode cX11_evenings 50 = .ok (.aload_n 0, 1) := by decide +kernel
theorem dX11_evenings_51 : decode cX11_evenings 51 = .ok (.getfield 12, 3) := by decide +kernel
theorem dX11_evenings_54 : decode cX11_evenings 54 = .ok (.invokevirtual 188, 3) := by decide +kernel
theorem dX11_evenings_57 : decode cX11_evenings 57 = .ok (.iconst 0, 1) := by decide +kernel
theorem dX11_evenings_58 : decode cX11_evenings 58 = .ok (.istore 7, 2) := by decide +kernel
theorem dX11_evenings_60 : decode cX11_evenings 60 = .ok (.iload 7, 2) := by decide +kernel
theorem dX11_evenings_62 : decode cX11_evenings 62 = .ok (.iload_n 2, 1) := by decide +kernel
theorem dX11_evenings_63 : decode cX11_evenings 63 = .ok (.if_icmp .ge 69, 3) := by decide +kernel
theorem dX11_evenings_66 : decode cX11_evenings 66 = .ok (.aload_n 0, 1) := by decide +kernel
theorem dX11_evenings_67 : decode cX11_evenings 67 = .ok (.getfield 24, 3) := by decide +kernel
theorem dX11_evenings_70 : decode cX11_evenings 70 = .ok (.aload 4, 2) := by decide +kernel
theorem dX11_evenings_72 : decode cX11_evenings 72 = .ok (.aload 4, 2) := by decide +kernel
theorem dX11_evenings_74 : decode cX11_evenings 74 = .ok (.bipush 60, 2) := by decide +kernel
theorem dX11_evenings_76 : decode cX11_evenings 76 = .ok (.invokevirtual 192, 3) := by decide +kernel
theorem dX11_evenings_79 : decode cX11_evenings 79 = .ok (.aload_n 0, 1) := by decide +kernel
theorem dX11_evenings_80 : decode cX11_evenings 80 = .ok (.getfield 24, 3) := by decide +kernel
theorem dX11_evenings_83 : decode cX11_evenings 83 = .ok (.getfield 196, 3) := by decide +kernel
theorem dX11_evenings_86 : decode cX11_evenings 86 = .ok (.getfield 156, 3) := by decide +kernel
theorem dX11_evenings_89 : decode cX11_evenings 89 = .ok (.istore 5, 2) := by decide +kernel
theorem dX11_evenings_91 : decode cX11_evenings 91 = .ok (.aload_n 0, 1) := by decide +kernel
theorem dX11_evenings_92 : decode cX11_evenings 92 = .ok (.getfield 24, 3) := by decide +kernel
theorem dX11_evenings_95 : decode cX11_evenings 95 = .ok (.getfield 196, 3) := by decide +kernel
theorem dX11_evenings_98 : decode cX11_evenings 98 = .ok (.invokevirtual 177, 3) := by decide +kernel
theorem dX11_evenings_101 : decode cX11_evenings 101 = .ok (.iconst 2, 1) := by decide +kernel
theorem dX11_evenings_102 : decode cX11_evenings 102 = .ok (.if_icmp .ne 6, 3) := by decide +kernel
theorem dX11_evenings_105 : decode cX11_evenings 105 = .ok (.iinc 6 1, 3) := by decide +kernel
theorem dX11_evenings_108 : decode cX11_evenings 108 = .ok (.aload_n 0, 1) := by decide +kernel
theorem dX11_evenings_109 : decode cX11_evenings 109 = .ok (.getfield 24, 3) := by decide +kernel
theorem dX11_evenings_112 : decode cX11_evenings 112 = .ok (.getfield 196, 3) := by decide +kernel
theorem dX11_evenings_115 : decode cX11_evenings 115 = .ok (.invokevirtual 185, 3) := by decide +kernel
theorem dX11_evenings_118 : decode cX11_evenings 118 = .ok (.aload_n 0, 1) := by decide +kernel
theorem dX11_evenings_119 : decode cX11_evenings 119 = .ok (.getfield 24, 3) := by decide +kernel
theorem dX11_evenings_122 : decode cX11_evenings 122 = .ok (.iconst 0, 1) := by decide +kernel
theorem dX11_evenings_123 : decode cX11_evenings 123 = .ok (.putfield 241, 3) := by decide +kernel
theorem dX11_evenings_126 : decode cX11_evenings 126 = .ok (.iinc 7 1, 3) := by decide +kernel
theorem dX11_evenings_129 : decode cX11_evenings 129 = .ok (.goto (-69), 3) := by decide +kernel
theorem dX11_evenings_132 : decode cX11_evenings 132 = .ok (.iload_n 3, 1) := by decide +kernel
theorem dX11_evenings_133 : decode cX11_evenings 133 = .ok (.ifCond .ne 6, 3) := by decide +kernel
theorem dX11_evenings_136 : decode cX11_evenings 136 = .ok (.iload 5, 2) := by decide +kernel
theorem dX11_evenings_138 : decode cX11_evenings 138 = .ok (.ireturn, 1) := by decide +kernel
theorem dX11_evenings_139 : decode cX11_evenings 139 = .ok (.iload_n 3, 1) := by decide +kernel
theorem dX11_evenings_140 : decode cX11_evenings 140 = .ok (.iconst 1, 1) := by decide +kernel
theorem dX11_evenings_141 : decode cX11_evenings 141 = .ok (.if_icmp .ne 8, 3) := by decide +kernel
theorem dX11_evenings_144 : decode cX11_evenings 144 = .ok (.iload 6, 2) := by decide +kernel
theorem dX11_evenings_146 : decode cX11_evenings 146 = .ok (.goto 13, 3) := by decide +kernel
theorem dX11_evenings_149 : decode cX11_evenings 149 = .ok (.aload_n 0, 1) := by decide +kernel
theorem dX11_evenings_150 : decode cX11_evenings 150 = .ok (.getfield 24, 3) := by decide +kernel
theorem dX11_evenings_153 : decode cX11_evenings 153 = .ok (.getfield 196, 3) := by decide +kernel
theorem dX11_evenings_156 : decode cX11_evenings 156 = .ok (.invokevirtual 244, 3) := by decide +kernel
theorem dX11_evenings_159 : decode cX11_evenings 159 = .ok (.ireturn, 1) := by decide +kernel
theorem dX11_hear_0 : decode cX11_hear 0 = .ok (.aload_n 0, 1) := by decide +kernel
theorem dX11_hear_1 : decode cX11_hear 1 = .ok (.getfield 12, 3) := by decide +kernel
theorem dX11_hear_4 : decode cX11_hear 4 = .ok (.getfield 247, 3) := by decide +kernel
theorem dX11_hear_7 : decode cX11_hear 7 = .ok (.bipush 8, 2) := by decide +kernel
theorem dX11_hear_9 : decode cX11_hear 9 = .ok (.if_icmp .lt 6, 3) := by decide +kernel
theorem dX11_hear_12 : decode cX11_hear 12 = .ok (.bipush (-4), 2) := by decide +kernel
theorem dX11_hear_14 : decode cX11_hear 14 = .ok (.ireturn, 1) := by decide +kernel
theorem dX11_hear_15 : decode cX11_hear 15 = .ok (.aload_n 0, 1) := by decide +kernel
theorem dX11_hear_16 : decode cX11_hear 16 = .ok (.getfield 12, 3) := by decide +kernel
theorem dX11_hear_19 : decode cX11_hear 19 = .ok (.getfield 250, 3) := by decide +kernel
theorem dX11_hear_22 : decode cX11_hear 22 = .ok (.aload_n 0, 1) := by decide +kernel
theorem dX11_hear_23 : decode cX11_hear 23 = .ok (.getfield 12, 3) := by decide +kernel
theorem dX11_hear_26 : decode cX11_hear 26 = .ok (.dup, 1) := by decide +kernel
theorem dX11_hear_27 : decode cX11_hear 27 = .ok (.getfield 247, 3) := by decide +kernel
theorem dX11_hear_30 : decode cX11_hear 30 = .ok (.dup_x1, 1) := by decide +kernel
theorem dX11_hear_31 : decode cX11_hear 31 = .ok (.iconst 1, 1) := by decide +kernel
theorem dX11_hear_32 : decode cX11_hear 32 = .ok (.iadd, 1) := by decide +kernel
theorem dX11_hear_33 : decode cX11_hear 33 = .ok (.putfield 247, 3) := by decide +kernel
theorem dX11_hear_36 : decode cX11_hear 36 = .ok (.iload_n 1, 1) := by decide +kernel
theorem dX11_hear_37 : decode cX11_hear 37 = .ok (.bastore, 1) := by decide +kernel
theorem dX11_hear_38 : decode cX11_hear 38 = .ok (.aload_n 0, 1) := by decide +kernel
theorem dX11_hear_39 : decode cX11_hear 39 = .ok (.getfield 12, 3) := by decide +kernel
theorem dX11_hear_42 : decode cX11_hear 42 = .ok (.getfield 247, 3) := by decide +kernel
theorem dX11_hear_45 : decode cX11_hear 45 = .ok (.ireturn, 1) := by decide +kernel
theorem dX11_hush_0 : decode cX11_hush 0 = .ok (.aload_n 0, 1) := by decide +kernel
theorem dX11_hush_1 : decode cX11_hush 1 = .ok (.getfield 12, 3) := by decide +kernel
theorem dX11_hush_4 : decode cX11_hush 4 = .ok (.getfield 247, 3) := by decide +kernel
theorem dX11_hush_7 : decode cX11_hush 7 = .ok (.istore_n 1, 1) := by decide +kernel
theorem dX11_hush_8 : decode cX11_hush 8 = .ok (.aload_n 0, 1) := by decide +kernel
theorem dX11_hush_9 : decode cX11_hush 9 = .ok (.getfield 12, 3) := by decide +kernel
theorem dX11_hush_12 : decode cX11_hush 12 = .ok (.iconst 0, 1) := by decide +kernel
theorem dX11_hush_13 : decode cX11_hush 13 = .ok (.putfield 247, 3) := by decide +kernel
theorem dX11_hush_16 : decode cX11_hush 16 = .ok (.iload_n 1, 1) := by decide +kernel
theorem dX11_hush_17 : decode cX11_hush 17 = .ok (.ireturn, 1) := by decide +kernel
theorem dX11_who_0 : decode cX11_who 0 = .ok (.iconst 0, 1) := by decide +kernel
theorem dX11_who_1 : decode cX11_who 1 = .ok (.istore_n 1, 1) := by decide +kernel
theorem dX11_who_2 : decode cX11_who 2 = .ok (.iconst 0, 1) := by decide +kernel
theorem dX11_who_3 : decode cX11_who 3 = .ok (.istore_n 2, 1) := by decide +kernel
theorem dX11_who_4 : decode cX11_who 4 = .ok (.iload_n 2, 1) := by decide +kernel
theorem dX11_who_5 : decode cX11_who 5 = .ok (.aload_n 0, 1) := by decide +kernel
theorem dX11_who_6 : decode cX11_who 6 = .ok (.getfield 12, 3) := by decide +kernel
theorem dX11_who_9 : decode cX11_who 9 = .ok (.getfield 69, 3) := by decide +kernel
theorem dX11_who_12 : decode cX11_who 12 = .ok (.if_icmp .ge 30, 3) := by decide +kernel
theorem dX11_who_15 : decode cX11_who 15 = .ok (.aload_n 0, 1) := by decide +kernel
theorem dX11_who_16 : decode cX11_who 16 = .ok (.aload_n 0, 1) := by decide +kernel
theorem dX11_who_17 : decode cX11_who 17 = .ok (.getfield 12, 3) := by decide +kernel
theorem dX11_who_20 : decode cX11_who 20 = .ok (.iload_n 2, 1) := by decide +kernel
theorem dX11_who_21 : decode cX11_who 21 = .ok (.invokevirtual 110, 3) := by decide +kernel
theorem dX11_who_24 : decode cX11_who 24 = .ok (.invokevirtual 254, 3) := by decide +kernel
theorem dX11_who_27 : decode cX11_who 27 = .ok (.ifCond .eq 9, 3) := by decide +kernel
theorem dX11_who_30 : decode cX11_who 30 = .ok (.iload_n 1, 1) := by decide +kernel
theorem dX11_who_31 : decode cX11_who 31 = .ok (.iconst 1, 1) := by decide +kernel
theorem dX11_who_32 : decode cX11_who 32 = .ok (.iload_n 2, 1) := by decide +kernel
theorem dX11_who_33 : decode cX11_who 33 = .ok (.ishl, 1) := by decide +kernel
theorem dX11_who_34 : decode cX11_who 34 = .ok (.ior, 1) := by decide +kernel
theorem dX11_who_35 : decode cX11_who 35 = .ok (.istore_n 1, 1) := by decide +kernel
theorem dX11_who_36 : decode cX11_who 36 = .ok (.iinc 2 1, 3) := by decide +kernel
theorem dX11_who_39 : decode cX11_who 39 = .ok (.goto (-35), 3) := by decide +kernel
theorem dX11_who_42 : decode cX11_who 42 = .ok (.iload_n 1, 1) := by decide +kernel
theorem dX11_who_43 : decode cX11_who 43 = .ok (.ireturn, 1) := by decide +kernel
theorem dX11_makesSo_0 : decode cX11_makesSo 0 = .ok (.aload_n 0, 1) := by decide +kernel
theorem dX11_makesSo_1 : decode cX11_makesSo 1 = .ok (.getfield 24, 3) := by decide +kernel
theorem dX11_makesSo_4 : decode cX11_makesSo 4 = .ok (.aload_n 0, 1) := by decide +kernel
theorem dX11_makesSo_5 : decode cX11_makesSo 5 = .ok (.getfield 12, 3) := by decide +kernel
theorem dX11_makesSo_8 : decode cX11_makesSo 8 = .ok (.invokevirtual 188, 3) := by decide +kernel
theorem dX11_makesSo_11 : decode cX11_makesSo 11 = .ok (.iconst 0, 1) := by decide +kernel
theorem dX11_makesSo_12 : decode cX11_makesSo 12 = .ok (.istore_n 2, 1) := by decide +kernel
theorem dX11_makesSo_13 : decode cX11_makesSo 13 = .ok (.iload_n 2, 1) := by decide +kernel
theorem dX11_makesSo_14 : decode cX11_makesSo 14 = .ok (.aload_n 0, 1) := by decide +kernel
theorem dX11_makesSo_15 : decode cX11_makesSo 15 = .ok (.getfield 12, 3) := by decide +kernel
theorem dX11_makesSo_18 : decode cX11_makesSo 18 = .ok (.getfield 247, 3) := by decide +kernel
theorem dX11_makesSo_21 : decode cX11_makesSo 21 = .ok (.if_icmp .ge 47, 3) := by decide +kernel
theorem dX11_makesSo_24 : decode cX11_makesSo 24 = .ok (.iload_n 2, 1) := by decide +kernel
theorem dX11_makesSo_25 : decode cX11_makesSo 25 = .ok (.bipush 8, 2) := by decide +kernel
theorem dX11_makesSo_27 : decode cX11_makesSo 27 = .ok (.if_icmp .ge 41, 3) := by decide +kernel
theorem dX11_makesSo_30 : decode cX11_makesSo 30 = .ok (.aload_n 0, 1) := by decide +kernel
theorem dX11_makesSo_31 : decode cX11_makesSo 31 = .ok (.getfield 24, 3) := by decide +kernel
theorem dX11_makesSo_34 : decode cX11_makesSo 34 = .ok (.invokevirtual 258, 3) := by decide +kernel
theorem dX11_makesSo_37 : decode cX11_makesSo 37 = .ok (.ifCond .eq 23, 3) := by decide +kernel
theorem dX11_makesSo_40 : decode cX11_makesSo 40 = .ok (.aload_n 0, 1) := by decide +kernel
theorem dX11_makesSo_41 : decode cX11_makesSo 41 = .ok (.getfield 24, 3) := by decide +kernel
theorem dX11_makesSo_44 : decode cX11_makesSo 44 = .ok (.aload_n 1, 1) := by decide +kernel
theorem dX11_makesSo_45 : decode cX11_makesSo 45 = .ok (.invokevirtual 261, 3) := by decide +kernel
theorem dX11_makesSo_48 : decode cX11_makesSo 48 = .ok (.aload_n 0, 1) := by decide +kernel
theorem dX11_makesSo_49 : decode cX11_makesSo 49 = .ok (.getfield 12, 3) := by decide +kernel
theorem dX11_makesSo_52 : decode cX11_makesSo 52 = .ok (.getfield 250, 3) := by decide +kernel
theorem dX11_makesSo_55 : decode cX11_makesSo 55 = .ok (.iload_n 2, 1) := by decide +kernel
theorem dX11_makesSo_56 : decode cX11_makesSo 56 = .ok (.baload, 1) := by decide +kernel
theorem dX11_makesSo_57 : decode cX11_makesSo 57 = .ok (.if_icmp .eq 5, 3) := by decide +kernel
theorem dX11_makesSo_60 : decode cX11_makesSo 60 = .ok (.iconst 0, 1) := by decide +kernel
theorem dX11_makesSo_61 : decode cX11_makesSo 61 = .ok (.ireturn, 1) := by decide +kernel
theorem dX11_makesSo_62 : decode cX11_makesSo 62 = .ok (.iinc 2 1, 3) := by decide +kernel
theorem dX11_makesSo_65 : decode cX11_makesSo 65 = .ok (.goto (-52), 3) := by decide +kernel
theorem dX11_makesSo_68 : decode cX11_makesSo 68 = .ok (.iconst 1, 1) := by decide +kernel
theorem dX11_makesSo_69 : decode cX11_makesSo 69 = .ok (.ireturn, 1) := by decide +kernel
theorem dX11_odds_0 : decode cX11_odds 0 = .ok (.aload_n 0, 1) := by decide +kernel
theorem dX11_odds_1 : decode cX11_odds 1 = .ok (.getfield 12, 3) := by decide +kernel
theorem dX11_odds_4 : decode cX11_odds 4 = .ok (.iload_n 1, 1) := by decide +kernel
theorem dX11_odds_5 : decode cX11_odds 5 = .ok (.invokevirtual 110, 3) := by decide +kernel
theorem dX11_odds_8 : decode cX11_odds 8 = .ok (.astore_n 3, 1) := by decide +kernel
theorem dX11_odds_9 : decode cX11_odds 9 = .ok (.aload_n 3, 1) := by decide +kernel
theorem dX11_odds_10 : decode cX11_odds 10 = .ok (.ifnull 13, 3) := by decide +kernel
theorem dX11_odds_13 : decode cX11_odds 13 = .ok (.aload_n 0, 1) := by decide +kernel
theorem dX11_odds_14 : decode cX11_odds 14 = .ok (.getfield 12, 3) := by decide +kernel
theorem dX11_odds_17 : decode cX11_odds 17 = .ok (.getfield 56, 3) := by decide +kernel
theorem dX11_odds_20 : decode cX11_odds 20 = .ok (.ifCond .ne 7, 3) := by decide +kernel
theorem dX11_odds_23 : decode cX11_odds 23 = .ok (.ldc2_w 264, 3) := by decide +kernel
theorem dX11_odds_26 : decode cX11_odds 26 = .ok (.lreturn, 1) := by decide +kernel
theorem dX11_odds_27 : decode cX11_odds 27 = .ok (.iconst 0, 1) := by decide +kernel
theorem dX11_odds_28 : decode cX11_odds 28 = .ok (.istore 4, 2) := by decide +kernel
theorem dX11_odds_30 : decode cX11_odds 30 = .ok (.iconst 0, 1) := by decide +kernel
theorem dX11_odds_31 : decode cX11_odds 31 = .ok (.istore 5, 2) := by decide +kernel
theorem dX11_odds_33 : decode cX11_odds 33 = .ok (.iload 5, 2) := by decide +kernel
theorem dX11_odds_35 : decode cX11_odds 35 = .ok (.aload_n 0, 1) := by decide +kernel
theorem dX11_odds_36 : decode cX11_odds 36 = .ok (.getfield 12, 3) := by decide +kernel
theorem dX11_odds_39 : decode cX11_odds 39 = .ok (.getfield 56, 3) := by decide +kernel
theorem dX11_odds_42 : decode cX11_odds 42 = .ok (.if_icmp .ge 46, 3) := by decide +kernel
theorem dX11_odds_45 : decode cX11_odds 45 = .ok (.aload_n 0, 1) := by decide +kernel
theorem dX11_odds_46 : decode cX11_odds 46 = .ok (.getfield 24, 3) := by decide +kernel
theorem dX11_odds_49 : decode cX11_odds 49 = .ok (.aload_n 0, 1) := by decide +kernel
theorem dX11_odds_50 : decode cX11_odds 50 = .ok (.getfield 12, 3) := by decide +kernel
theorem dX11_odds_53 : decode cX11_odds 53 = .ok (.invokevirtual 188, 3) := by decide +kernel
theorem dX11_odds_56 : decode cX11_odds 56 = .ok (.aload_n 0, 1) := by decide +kernel
theorem dX11_odds_57 : decode cX11_odds 57 = .ok (.getfield 24, 3) := by decide +kernel
theorem dX11_odds_60 : decode cX11_odds 60 = .ok (.iload 5, 2) := by decide +kernel
theorem dX11_odds_62 : decode cX11_odds 62 = .ok (.putfield 241, 3) := by decide +kernel
theorem dX11_odds_65 : decode cX11_odds 65 = .ok (.aload_n 0, 1) := by decide +kernel
theorem dX11_odds_66 : decode cX11_odds 66 = .ok (.getfield 24, 3) := by decide +kernel
theorem dX11_odds_69 : decode cX11_odds 69 = .ok (.aload_n 3, 1) := by decide +kernel
theorem dX11_odds_70 : decode cX11_odds 70 = .ok (.aload_n 3, 1) := by decide +kernel
theorem dX11_odds_71 : decode cX11_odds 71 = .ok (.invokevirtual 202, 3) := by decide +kernel
theorem dX11_odds_74 : decode cX11_odds 74 = .ok (.bipush (-5), 2) := by decide +kernel
theorem dX11_odds_76 : decode cX11_odds 76 = .ok (.if_icmp .eq 6, 3) := by decide +kernel
theorem dX11_odds_79 : decode cX11_odds 79 = .ok (.iinc 4 1, 3) := by decide +kernel
theorem dX11_odds_82 : decode cX11_odds 82 = .ok (.iinc 5 1, 3) := by decide +kernel
theorem dX11_odds_85 : decode cX11_odds 85 = .ok (.goto (-52), 3) := by decide +kernel
theorem dX11_odds_88 : decode cX11_odds 88 = .ok (.iload 4, 2) := by decide +kernel
theorem dX11_odds_90 : decode cX11_odds 90 = .ok (.aload_n 0, 1) := by decide +kernel
theorem dX11_odds_91 : decode cX11_odds 91 = .ok (.getfield 12, 3) := by decide +kernel
theorem dX11_odds_94 : decode cX11_odds 94 = .ok (.getfield 56, 3) := by decide +kernel
theorem dX11_odds_97 : decode cX11_odds 97 = .ok (.iload_n 2, 1) := by decide +kernel
theorem dX11_odds_98 : decode cX11_odds 98 = .ok (.invokestatic 266, 3) := by decide +kernel
theorem dX11_odds_101 : decode cX11_odds 101 = .ok (.lreturn, 1) := by decide +kernel
theorem dX11_mean_0 : decode cX11_mean 0 = .ok (.iconst 0, 1) := by decide +kernel
theorem dX11_mean_1 : decode cX11_mean 1 = .ok (.istore_n 2, 1) := by decide +kernel
theorem dX11_mean_2 : decode cX11_mean 2 = .ok (.iconst 0, 1) := by decide +kernel
theorem dX11_mean_3 : decode cX11_mean 3 = .ok (.istore_n 3, 1) := by decide +kernel
theorem dX11_mean_4 : decode cX11_mean 4 = .ok (.iload_n 3, 1) := by decide +kernel
theorem dX11_mean_5 : decode cX11_mean 5 = .ok (.aload_n 0, 1) := by decide +kernel
theorem dX11_mean_6 : decode cX11_mean 6 = .ok (.getfield 12, 3) := by decide +kernel
theorem dX11_mean_9 : decode cX11_mean 9 = .ok (.getfield 69, 3) := by decide +kernel
theorem dX11_mean_12 : decode cX11_mean 12 = .ok (.if_icmp .ge 56, 3) := by decide +kernel
theorem dX11_mean_15 : decode cX11_mean 15 = .ok (.aload_n 0, 1) := by decide +kernel
theorem dX11_mean_16 : decode cX11_mean 16 = .ok (.getfield 12, 3) := by decide +kernel
theorem dX11_mean_19 : decode cX11_mean 19 = .ok (.iload_n 3, 1) := by decide +kernel
theorem dX11_mean_20 : decode cX11_mean 20 = .ok (.invokevirtual 110, 3) := by decide +kernel
theorem dX11_mean_23 : decode cX11_mean 23 = .ok (.astore 4, 2) := by decide +kernel
theorem dX11_mean_25 : decode cX11_mean 25 = .ok (.aload_n 0, 1) := by decide +kernel
theorem dX11_mean_26 : decode cX11_mean 26 = .ok (.getfield 24, 3) := by decide +kernel
theorem dX11_mean_29 : decode cX11_mean 29 = .ok (.aload_n 0, 1) := by decide +kernel
theorem dX11_mean_30 : decode cX11_mean 30 = .ok (.getfield 12, 3) := by decide +kernel
theorem dX11_mean_33 : decode cX11_mean 33 = .ok (.invokevirtual 188, 3) := by decide +kernel
theorem dX11_mean_36 : decode cX11_mean 36 = .ok (.aload_n 0, 1) := by decide +kernel
theorem dX11_mean_37 : decode cX11_mean 37 = .ok (.getfield 24, 3) := by decide +kernel
theorem dX11_mean_40 : decode cX11_mean 40 = .ok (.aload 4, 2) := by decide +kernel
theorem dX11_mean_42 : decode cX11_mean 42 = .ok (.aload 4, 2) := by decide +kernel
theorem dX11_mean_44 : decode cX11_mean 44 = .ok (.bipush 60, 2) := by decide +kernel
theorem dX11_mean_46 : decode cX11_mean 46 = .ok (.invokevirtual 192, 3) := by decide +kernel
theorem dX11_mean_49 : decode cX11_mean 49 = .ok (.iload_n 2, 1) := by decide +kernel
theorem dX11_mean_50 : decode cX11_mean 50 = .ok (.aload_n 0, 1) := by decide +kernel
theorem dX11_mean_51 : decode cX11_mean 51 = .ok (.getfield 24, 3) := by decide +kernel
theorem dX11_mean_54 : decode cX11_mean 54 = .ok (.getfield 196, 3) := by decide +kernel
theorem dX11_mean_57 : decode cX11_mean 57 = .ok (.getfield 156, 3) := by decide +kernel
theorem dX11_mean_60 : decode cX11_mean 60 = .ok (.iadd, 1) := by decide +kernel
theorem dX11_mean_61 : decode cX11_mean 61 = .ok (.istore_n 2, 1) := by decide +kernel
theorem dX11_mean_62 : decode cX11_mean 62 = .ok (.iinc 3 1, 3) := by decide +kernel
theorem dX11_mean_65 : decode cX11_mean 65 = .ok (.goto (-61), 3) := by decide +kernel
theorem dX11_mean_68 : decode cX11_mean 68 = .ok (.iload_n 2, 1) := by decide +kernel
theorem dX11_mean_69 : decode cX11_mean 69 = .ok (.aload_n 0, 1) := by decide +kernel
theorem dX11_mean_70 : decode cX11_mean 70 = .ok (.getfield 12, 3) := by decide +kernel
theorem dX11_mean_73 : decode cX11_mean 73 = .ok (.getfield 69, 3) := by decide +kernel
theorem dX11_mean_76 : decode cX11_mean 76 = .ok (.iload_n 1, 1) := by decide +kernel
theorem dX11_mean_77 : decode cX11_mean 77 = .ok (.invokestatic 266, 3) := by decide +kernel
theorem dX11_mean_80 : decode cX11_mean 80 = .ok (.lreturn, 1) := by decide +kernel
theorem dX11_lowest_0 : decode cX11_lowest 0 = .ok (.iload_n 1, 1) := by decide +kernel
theorem dX11_lowest_1 : decode cX11_lowest 1 = .ok (.ifCond .le 12, 3) := by decide +kernel
theorem dX11_lowest_4 : decode cX11_lowest 4 = .ok (.iload_n 2, 1) := by decide +kernel
theorem dX11_lowest_5 : decode cX11_lowest 5 = .ok (.ifCond .lt 8, 3) := by decide +kernel
theorem dX11_lowest_8 : decode cX11_lowest 8 = .ok (.iload_n 2, 1) := by decide +kernel
theorem dX11_lowest_9 : decode cX11_lowest 9 = .ok (.iconst 1, 1) := by decide +kernel
theorem dX11_lowest_10 : decode cX11_lowest 10 = .ok (.if_icmp .le 7, 3) := by decide +kernel
theorem dX11_lowest_13 : decode cX11_lowest 13 = .ok (.ldc2_w 264, 3) := by decide +kernel
theorem dX11_lowest_16 : decode cX11_lowest 16 = .ok (.lreturn, 1) := by decide +kernel
theorem dX11_lowest_17 : decode cX11_lowest 17 = .ok (.iconst 1, 1) := by decide +kernel
theorem dX11_lowest_18 : decode cX11_lowest 18 = .ok (.istore_n 3, 1) := by decide +kernel
theorem dX11_lowest_19 : decode cX11_lowest 19 = .ok (.iload_n 1, 1) := by decide +kernel
theorem dX11_lowest_20 : decode cX11_lowest 20 = .ok (.istore 4, 2) := by decide +kernel
theorem dX11_lowest_22 : decode cX11_lowest 22 = .ok (.iload 4, 2) := by decide +kernel
theorem dX11_lowest_24 : decode cX11_lowest 24 = .ok (.iconst 1, 1) := by decide +kernel
theorem dX11_lowest_25 : decode cX11_lowest 25 = .ok (.if_icmp .le 31, 3) := by decide +kernel
theorem dX11_lowest_28 : decode cX11_lowest 28 = .ok (.iload_n 3, 1) := by decide +kernel
theorem dX11_lowest_29 : decode cX11_lowest 29 = .ok (.iconst 1, 1) := by decide +kernel
theorem dX11_lowest_30 : decode cX11_lowest 30 = .ok (.if_icmp .ne 26, 3) := by decide +kernel
theorem dX11_lowest_33 : decode cX11_lowest 33 = .ok (.iload_n 0, 1) := by decide +kernel
theorem dX11_lowest_34 : decode cX11_lowest 34 = .ok (.iload 4, 2) := by decide +kernel
theorem dX11_lowest_36 : decode cX11_lowest 36 = .ok (.irem, 1) := by decide +kernel
theorem dX11_lowest_37 : decode cX11_lowest 37 = .ok (.ifCond .ne 13, 3) := by decide +kernel
theorem dX11_lowest_40 : decode cX11_lowest 40 = .ok (.iload_n 1, 1) := by decide +kernel
theorem dX11_lowest_41 : decode cX11_lowest 41 = .ok (.iload 4, 2) := by decide +kernel
theorem dX11_lowest_43 : decode cX11_lowest 43 = .ok (.irem, 1) := by decide +kernel
theorem dX11_lowest_44 : decode cX11_lowest 44 = .ok (.ifCond .ne 6, 3) := by decide +kernel
theorem dX11_lowest_47 : decode cX11_lowest 47 = .ok (.iload 4, 2) := by decide +kernel
theorem dX11_lowest_49 : decode cX11_lowest 49 = .ok (.istore_n 3, 1) := by decide +kernel
theorem dX11_lowest_50 : decode cX11_lowest 50 = .ok (.iinc 4 (-1), 3) := by decide +kernel
theorem dX11_lowest_53 : decode cX11_lowest 53 = .ok (.goto (-31), 3) := by decide +kernel
theorem dX11_lowest_56 : decode cX11_lowest 56 = .ok (.iload_n 2, 1) := by decide +kernel
theorem dX11_lowest_57 : decode cX11_lowest 57 = .ok (.ifCond .ne 7, 3) := by decide +kernel
theorem dX11_lowest_60 : decode cX11_lowest 60 = .ok (.iload_n 0, 1) := by decide +kernel
theorem dX11_lowest_61 : decode cX11_lowest 61 = .ok (.goto 4, 3) := by decide +kernel
theorem dX11_lowest_64 : decode cX11_lowest 64 = .ok (.iload_n 1, 1) := by decide +kernel
theorem dX11_lowest_65 : decode cX11_lowest 65 = .ok (.iload_n 3, 1) := by decide +kernel
theorem dX11_lowest_66 : decode cX11_lowest 66 = .ok (.idiv, 1) := by decide +kernel
theorem dX11_lowest_67 : decode cX11_lowest 67 = .ok (.i2l, 1) := by decide +kernel
theorem dX11_lowest_68 : decode cX11_lowest 68 = .ok (.lreturn, 1) := by decide +kernel
theorem dX11_book_0 : decode cX11_book 0 = .ok (.iload_n 1, 1) := by decide +kernel
theorem dX11_book_1 : decode cX11_book 1 = .ok (.iconst (-1), 1) := by decide +kernel
theorem dX11_book_2 : decode cX11_book 2 = .ok (.if_icmp .ne 13, 3) := by decide +kernel
theorem dX11_book_5 : decode cX11_book 5 = .ok (.aload_n 0, 1) := by decide +kernel
theorem dX11_book_6 : decode cX11_book 6 = .ok (.getfield 12, 3) := by decide +kernel
theorem dX11_book_9 : decode cX11_book 9 = .ok (.iconst 0, 1) := by decide +kernel
theorem dX11_book_10 : decode cX11_book 10 = .ok (.putfield 270, 3) := by decide +kernel
theorem dX11_book_13 : decode cX11_book 13 = .ok (.iconst 0, 1) := by decide +kernel
theorem dX11_book_14 : decode cX11_book 14 = .ok (.ireturn, 1) := by decide +kernel
theorem dX11_book_15 : decode cX11_book 15 = .ok (.aload_n 0, 1) := by decide +kernel
theorem dX11_book_16 : decode cX11_book 16 = .ok (.getfield 12, 3) := by decide +kernel
theorem dX11_book_19 : decode cX11_book 19 = .ok (.iload_n 1, 1) := by decide +kernel
theorem dX11_book_20 : decode cX11_book 20 = .ok (.invokevirtual 110, 3) := by decide +kernel
theorem dX11_book_23 : decode cX11_book 23 = .ok (.ifnonnull 5, 3) := by decide +kernel
theorem dX11_book_26 : decode cX11_book 26 = .ok (.iconst (-1), 1) := by decide +kernel
theorem dX11_book_27 : decode cX11_book 27 = .ok (.ireturn, 1) := by decide +kernel
theorem dX11_book_28 : decode cX11_book 28 = .ok (.aload_n 0, 1) := by decide +kernel
theorem dX11_book_29 : decode cX11_book 29 = .ok (.getfield 12, 3) := by decide +kernel
theorem dX11_book_32 : decode cX11_book 32 = .ok (.getfield 270, 3) := by decide +kernel
theorem dX11_book_35 : decode cX11_book 35 = .ok (.bipush 12, 2) := by decide +kernel
theorem dX11_book_37 : decode cX11_book 37 = .ok (.if_icmp .lt 6, 3) := by decide +kernel
theorem dX11_book_40 : decode cX11_book 40 = .ok (.bipush (-4), 2) := by decide +kernel
theorem dX11_book_42 : decode cX11_book 42 = .ok (.ireturn, 1) := by decide +kernel
theorem dX11_book_43 : decode cX11_book 43 = .ok (.aload_n 0, 1) := by decide +kernel
theorem dX11_book_44 : decode cX11_book 44 = .ok (.getfield 12, 3) := by decide +kernel
theorem dX11_book_47 : decode cX11_book 47 = .ok (.getfield 273, 3) := by decide +kernel
theorem dX11_book_50 : decode cX11_book 50 = .ok (.aload_n 0, 1) := by decide +kernel
theorem dX11_book_51 : decode cX11_book 51 = .ok (.getfield 12, 3) := by decide +kernel
theorem dX11_book_54 : decode cX11_book 54 = .ok (.dup, 1) := by decide +kernel
theorem dX11_book_55 : decode cX11_book 55 = .ok (.getfield 270, 3) := by decide +kernel
theorem dX11_book_58 : decode cX11_book 58 = .ok (.dup_x1, 1) := by decide +kernel
theorem dX11_book_59 : decode cX11_book 59 = .ok (.iconst 1, 1) := by decide +kernel
theorem dX11_book_60 : decode cX11_book 60 = .ok (.iadd, 1) := by decide +kernel
theorem dX11_book_61 : decode cX11_book 61 = .ok (.putfield 270, 3) := by decide +kernel
theorem dX11_book_64 : decode cX11_book 64 = .ok (.iload_n 1, 1) := by decide +kernel
theorem dX11_book_65 : decode cX11_book 65 = .ok (.iastore, 1) := by decide +kernel
theorem dX11_book_66 : decode cX11_book 66 = .ok (.aload_n 0, 1) := by decide +kernel
theorem dX11_book_67 : decode cX11_book 67 = .ok (.getfield 12, 3) := by decide +kernel
theorem dX11_book_70 : decode cX11_book 70 = .ok (.getfield 270, 3) := by decide +kernel
theorem dX11_book_73 : decode cX11_book 73 = .ok (.ireturn, 1) := by decide +kernel
theorem dX11_looked_0 : decode cX11_looked 0 = .ok (.aload_n 0, 1) := by decide +kernel
theorem dX11_looked_1 : decode cX11_looked 1 = .ok (.getfield 24, 3) := by decide +kernel
theorem dX11_looked_4 : decode cX11_looked 4 = .ok (.aload_n 0, 1) := by decide +kernel
theorem dX11_looked_5 : decode cX11_looked 5 = .ok (.getfield 12, 3) := by decide +kernel
theorem dX11_looked_8 : decode cX11_looked 8 = .ok (.invokevirtual 188, 3) := by decide +kernel
theorem dX11_looked_11 : decode cX11_looked 11 = .ok (.iconst 0, 1) := by decide +kernel
theorem dX11_looked_12 : decode cX11_looked 12 = .ok (.istore_n 1, 1) := by decide +kernel
theorem dX11_looked_13 : decode cX11_looked 13 = .ok (.iload_n 1, 1) := by decide +kernel
theorem dX11_looked_14 : decode cX11_looked 14 = .ok (.aload_n 0, 1) := by decide +kernel
theorem dX11_looked_15 : decode cX11_looked 15 = .ok (.getfield 12, 3) := by decide +kernel
theorem dX11_looked_18 : decode cX11_looked 18 = .ok (.getfield 270, 3) := by decide +kernel
theorem dX11_looked_21 : decode cX11_looked 21 = .ok (.if_icmp .ge 53, 3) := by decide +kernel
theorem dX11_looked_24 : decode cX11_looked 24 = .ok (.iload_n 1, 1) := by decide +kernel
theorem dX11_looked_25 : decode cX11_looked 25 = .ok (.bipush 12, 2) := by decide +kernel
theorem dX11_looked_27 : decode cX11_looked 27 = .ok (.if_icmp .ge 47, 3) := by decide +kernel
theorem dX11_looked_30 : decode cX11_looked 30 = .ok (.aload_n 0, 1) := by decide +kernel
theorem dX11_looked_31 : decode cX11_looked 31 = .ok (.getfield 24, 3) := by decide +kernel
theorem dX11_looked_34 : decode cX11_looked 34 = .ok (.invokevirtual 258, 3) := by decide +kernel
theorem dX11_looked_37 : decode cX11_looked 37 = .ok (.ifCond .eq 29, 3) := by decide +kernel
theorem dX11_looked_40 : decode cX11_looked 40 = .ok (.aload_n 0, 1) := by decide +kernel
theorem dX11_looked_41 : decode cX11_looked 41 = .ok (.getfield 24, 3) := by decide +kernel
theorem dX11_looked_44 : decode cX11_looked 44 = .ok (.aload_n 0, 1) := by decide +kernel
theorem dX11_looked_45 : decode cX11_looked 45 = .ok (.getfield 12, 3) := by decide +kernel
theorem dX11_looked_48 : decode cX11_looked 48 = .ok (.aload_n 0, 1) := by decide +kernel
theorem dX11_looked_49 : decode cX11_looked 49 = .ok (.getfield 12, 3) := by decide +kernel
theorem dX11_looked_52 : decode cX11_looked 52 = .ok (.getfield 273, 3) := by decide +kernel
theorem dX11_looked_55 : decode cX11_looked 55 = .ok (.iload_n 1, 1) := by decide +kernel
theorem dX11_looked_56 : decode cX11_looked 56 = .ok (.iaload, 1) := by decide +kernel
theorem dX11_looked_57 : decode cX11_looked 57 = .ok (.invokevirtual 110, 3) := by decide +kernel
theorem dX11_looked_60 : decode cX11_looked 60 = .ok (.invokevirtual 261, 3) := by decide +kernel
theorem dX11_looked_63 : decode cX11_looked 63 = .ok (.ifCond .ne 5, 3) := by decide +kernel
theorem dX11_looked_66 : decode cX11_looked 66 = .ok (.iload_n 1, 1) := by decide +kernel
theorem dX11_looked_67 : decode cX11_looked 67 = .ok (.ireturn, 1) := by decide +kernel
theorem dX11_looked_68 : decode cX11_looked 68 = .ok (.iinc 1 1, 3) := by decide +kernel
theorem dX11_looked_71 : decode cX11_looked 71 = .ok (.goto (-58), 3) := by decide +kernel
theorem dX11_looked_74 : decode cX11_looked 74 = .ok (.bipush (-5), 2) := by decide +kernel
theorem dX11_looked_76 : decode cX11_looked 76 = .ok (.ireturn, 1) := by decide +kernel
theorem dX11_judge_0 : decode cX11_judge 0 = .ok (.iload_n 1, 1) := by decide +kernel
theorem dX11_judge_1 : decode cX11_judge 1 = .ok (.ifCond .lt 9, 3) := by decide +kernel
theorem dX11_judge_4 : decode cX11_judge 4 = .ok (.iload_n 1, 1) := by decide +kernel
theorem dX11_judge_5 : decode cX11_judge 5 = .ok (.bipush 6, 2) := by decide +kernel
theorem dX11_judge_7 : decode cX11_judge 7 = .ok (.if_icmp .lt 5, 3) := by decide +kernel
theorem dX11_judge_10 : decode cX11_judge 10 = .ok (.iconst (-1), 1) := by decide +kernel
theorem dX11_judge_11 : decode cX11_judge 11 = .ok (.ireturn, 1) := by decide +kernel
theorem dX11_judge_12 : decode cX11_judge 12 = .ok (.aload_n 0, 1) := by decide +kernel
theorem dX11_judge_13 : decode cX11_judge 13 = .ok (.getfield 40, 3) := by decide +kernel
theorem dX11_judge_16 : decode cX11_judge 16 = .ok (.iload_n 1, 1) := by decide +kernel
theorem dX11_judge_17 : decode cX11_judge 17 = .ok (.iaload, 1) := by decide +kernel
theorem dX11_judge_18 : decode cX11_judge 18 = .ok (.ifCond .lt 16, 3) := by decide +kernel
theorem dX11_judge_21 : decode cX11_judge 21 = .ok (.aload_n 0, 1) := by decide +kernel
theorem dX11_judge_22 : decode cX11_judge 22 = .ok (.getfield 40, 3) := by decide +kernel
theorem dX11_judge_25 : decode cX11_judge 25 = .ok (.iload_n 1, 1) := by decide +kernel
theorem dX11_judge_26 : decode cX11_judge 26 = .ok (.iaload, 1) := by decide +kernel
theorem dX11_judge_27 : decode cX11_judge 27 = .ok (.iconst 3, 1) := by decide +kernel
theorem dX11_judge_28 : decode cX11_judge 28 = .ok (.if_icmp .eq 6, 3) := by decide +kernel
theorem dX11_judge_31 : decode cX11_judge 31 = .ok (.bipush (-12), 2) := by decide +kernel
theorem dX11_judge_33 : decode cX11_judge 33 = .ok (.ireturn, 1) := by decide +kernel
theorem dX11_judge_34 : decode cX11_judge 34 = .ok (.iconst 0, 1) := by decide +kernel
theorem dX11_judge_35 : decode cX11_judge 35 = .ok (.istore_n 3, 1) := by decide +kernel
theorem dX11_judge_36 : decode cX11_judge 36 = .ok (.iload_n 3, 1) := by decide +kernel
theorem dX11_judge_37 : decode cX11_judge 37 = .ok (.aload_n 0, 1) := by decide +kernel
theorem dX11_judge_38 : decode cX11_judge 38 = .ok (.getfield 12, 3) := by decide +kernel
theorem dX11_judge_41 : decode cX11_judge 41 = .ok (.getfield 56, 3) := by decide +kernel
theorem dX11_judge_44 : decode cX11_judge 44 = .ok (.if_icmp .ge 53, 3) := by decide +kernel
theorem dX11_judge_47 : decode cX11_judge 47 = .ok (.aload_n 0, 1) := by decide +kernel
theorem dX11_judge_48 : decode cX11_judge 48 = .ok (.iload_n 1, 1) := by decide +kernel
theorem dX11_judge_49 : decode cX11_judge 49 = .ok (.iload_n 2, 1) := by decide +kernel
theorem dX11_judge_50 : decode cX11_judge 50 = .ok (.i2l, 1) := by decide +kernel
theorem dX11_judge_51 : decode cX11_judge 51 = .ok (.iload_n 3, 1) := by decide +kernel
theorem dX11_judge_52 : decode cX11_judge 52 = .ok (.i2l, 1) := by decide +kernel
theorem dX11_judge_53 : decode cX11_judge 53 = .ok (.ladd, 1) := by decide +kernel
theorem dX11_judge_54 : decode cX11_judge 54 = .ok (.invokevirtual 276, 3) := by decide +kernel
theorem dX11_judge_57 : decode cX11_judge 57 = .ok (.ifCond .ne 8, 3) := by decide +kernel
theorem dX11_judge_60 : decode cX11_judge 60 = .ok (.bipush 100, 2) := by decide +kernel
theorem dX11_judge_62 : decode cX11_judge 62 = .ok (.iload_n 3, 1) := by decide +kernel
theorem dX11_judge_63 : decode cX11_judge 63 = .ok (.iadd, 1) := by decide +kernel
theorem dX11_judge_64 : decode cX11_judge 64 = .ok (.ireturn, 1) := by decide +kernel
theorem dX11_judge_65 : decode cX11_judge 65 = .ok (.aload_n 0, 1) := by decide +kernel
theorem dX11_judge_66 : decode cX11_judge 66 = .ok (.getfield 37, 3) := by decide +kernel
theorem dX11_judge_69 : decode cX11_judge 69 = .ok (.iload_n 1, 1) := by decide +kernel
theorem dX11_judge_70 : decode cX11_judge 70 = .ok (.aaload, 1) := by decide +kernel
theorem dX11_judge_71 : decode cX11_judge 71 = .ok (.iload_n 2, 1) := by decide +kernel
theorem dX11_judge_72 : decode cX11_judge 72 = .ok (.iload_n 3, 1) := by decide +kernel
theorem dX11_judge_73 : decode cX11_judge 73 = .ok (.iadd, 1) := by decide +kernel
theorem dX11_judge_74 : decode cX11_judge 74 = .ok (.laload, 1) := by decide +kernel
theorem dX11_judge_75 : decode cX11_judge 75 = .ok (.aload_n 0, 1) := by decide +kernel
theorem dX11_judge_76 : decode cX11_judge 76 = .ok (.getfield 12, 3) := by decide +kernel
theorem dX11_judge_79 : decode cX11_judge 79 = .ok (.getfield 66, 3) := by decide +kernel
theorem dX11_judge_82 : decode cX11_judge 82 = .ok (.iload_n 3, 1) := by decide +kernel
theorem dX11_judge_83 : decode cX11_judge 83 = .ok (.iaload, 1) := by decide +kernel
theorem dX11_judge_84 : decode cX11_judge 84 = .ok (.i2l, 1) := by decide +kernel
theorem dX11_judge_85 : decode cX11_judge 85 = .ok (.lcmp, 1) := by decide +kernel
theorem dX11_judge_86 : decode cX11_judge 86 = .ok (.ifCond .eq 5, 3) := by decide +kernel
theorem dX11_judge_89 : decode cX11_judge 89 = .ok (.iload_n 3, 1) := by decide +kernel
theorem dX11_judge_90 : decode cX11_judge 90 = .ok (.ireturn, 1) := by decide +kernel
theorem dX11_judge_91 : decode cX11_judge 91 = .ok (.iinc 3 1, 3) := by decide +kernel
theorem dX11_judge_94 : decode cX11_judge 94 = .ok (.goto (-58), 3) := by decide +kernel
theorem dX11_judge_97 : decode cX11_judge 97 = .ok (.bipush (-5), 2) := by decide +kernel
theorem dX11_judge_99 : decode cX11_judge 99 = .ok (.ireturn, 1) := by decide +kernel
theorem dX11_image_0 : decode cX11_image 0 = .ok (.aload_n 0, 1) := by decide +kernel
theorem dX11_image_1 : decode cX11_image 1 = .ok (.getfield 18, 3) := by decide +kernel
theorem dX11_image_4 : decode cX11_image 4 = .ok (.aload_n 0, 1) := by decide +kernel
theorem dX11_image_5 : decode cX11_image 5 = .ok (.getfield 12, 3) := by decide +kernel
theorem dX11_image_8 : decode cX11_image 8 = .ok (.invokevirtual 280, 3) := by decide +kernel
theorem dX11_image_11 : decode cX11_image 11 = .ok (.aload_n 0, 1) := by decide +kernel
theorem dX11_image_12 : decode cX11_image 12 = .ok (.iconst 1, 1) := by decide +kernel
theorem dX11_image_13 : decode cX11_image 13 = .ok (.putfield 283, 3) := by decide +kernel
theorem dX11_image_16 : decode cX11_image 16 = .ok (.aload_n 0, 1) := by decide +kernel
theorem dX11_image_17 : decode cX11_image 17 = .ok (.getfield 12, 3) := by decide +kernel
theorem dX11_image_20 : decode cX11_image 20 = .ok (.getfield 69, 3) := by decide +kernel
theorem dX11_image_23 : decode cX11_image 23 = .ok (.ireturn, 1) := by decide +kernel
theorem dX11_undo_0 : decode cX11_undo 0 = .ok (.aload_n 0, 1) := by decide +kernel
theorem dX11_undo_1 : decode cX11_undo 1 = .ok (.getfield 283, 3) := by decide +kernel
theorem dX11_undo_4 : decode cX11_undo 4 = .ok (.ifCond .ne 6, 3) := by decide +kernel
theorem dX11_undo_7 : decode cX11_undo 7 = .ok (.bipush (-3), 2) := by decide +kernel
theorem dX11_undo_9 : decode cX11_undo 9 = .ok (.ireturn, 1) := by decide +kernel
theorem dX11_undo_10 : decode cX11_undo 10 = .ok (.aload_n 0, 1) := by decide +kernel
theorem dX11_undo_11 : decode cX11_undo 11 = .ok (.getfield 12, 3) := by decide +kernel
theorem dX11_undo_14 : decode cX11_undo 14 = .ok (.aload_n 0, 1) := by decide +kernel
theorem dX11_undo_15 : decode cX11_undo 15 = .ok (.getfield 18, 3) := by decide +kernel
theorem dX11_undo_18 : decode cX11_undo 18 = .ok (.invokevirtual 280, 3) := by decide +kernel
theorem dX11_undo_21 : decode cX11_undo 21 = .ok (.aload_n 0, 1) := by decide +kernel
theorem dX11_undo_22 : decode cX11_undo 22 = .ok (.getfield 12, 3) := by decide +kernel
theorem dX11_undo_25 : decode cX11_undo 25 = .ok (.getfield 69, 3) := by decide +kernel
theorem dX11_undo_28 : decode cX11_undo 28 = .ok (.ireturn, 1) := by decide +kernel
theorem dX11_act_0 : decode cX11_act 0 = .ok (.aload_n 0, 1) := by decide +kernel
theorem dX11_act_1 : decode cX11_act 1 = .ok (.getfield 47, 3) := by decide +kernel
theorem dX11_act_4 : decode cX11_act 4 = .ok (.bipush 20, 2) := by decide +kernel
theorem dX11_act_6 : decode cX11_act 6 = .ok (.iconst 0, 1) := by decide +kernel
theorem dX11_act_7 : decode cX11_act 7 = .ok (.iastore, 1) := by decide +kernel
theorem dX11_act_8 : decode cX11_act 8 = .ok (.aload_n 0, 1) := by decide +kernel
theorem dX11_act_9 : decode cX11_act 9 = .ok (.getfield 12, 3) := by decide +kernel
theorem dX11_act_12 : decode cX11_act 12 = .ok (.iload_n 1, 1) := by decide +kernel
theorem dX11_act_13 : decode cX11_act 13 = .ok (.invokevirtual 110, 3) := by decide +kernel
theorem dX11_act_16 : decode cX11_act 16 = .ok (.astore 4, 2) := by decide +kernel
theorem dX11_act_18 : decode cX11_act 18 = .ok (.aload 4, 2) := by decide +kernel
theorem dX11_act_20 : decode cX11_act 20 = .ok (.ifnonnull 5, 3) := by decide +kernel
theorem dX11_act_23 : decode cX11_act 23 = .ok (.iconst 0, 1) := by decide +kernel
theorem dX11_act_24 : decode cX11_act 24 = .ok (.ireturn, 1) := by decide +kernel
theorem dX11_act_25 : decode cX11_act 25 = .ok (.iload_n 2, 1) := by decide +kernel
theorem dX11_act_26 : decode cX11_act 26 = .ok (.tableswitch 47 0 2 #[26, 33, 40], 26) := by decide +kernel
theorem dX11_act_52 : decode cX11_act 52 = .ok (.aload 4, 2) := by decide +kernel
theorem dX11_act_54 : decode cX11_act 54 = .ok (.iload_n 3, 1) := by decide +kernel
theorem dX11_act_55 : decode cX11_act 55 = .ok (.invokevirtual 287, 3) := by decide +kernel
theorem dX11_act_58 : decode cX11_act 58 = .ok (.ireturn, 1) := by decide +kernel
theorem dX11_act_59 : decode cX11_act 59 = .ok (.aload 4, 2) := by decide +kernel
theorem dX11_act_61 : decode cX11_act 61 = .ok (.iload_n 3, 1) := by decide +kernel
theorem dX11_act_62 : decode cX11_act 62 = .ok (.invokevirtual 291, 3) := by decide +kernel
theorem dX11_act_65 : decode cX11_act 65 = .ok (.ireturn, 1) := by decide +kernel
theorem dX11_act_66 : decode cX11_act 66 = .ok (.aload 4, 2) := by decide +kernel
theorem dX11_act_68 : decode cX11_act 68 = .ok (.iload_n 3, 1) := by decide +kernel
theorem dX11_act_69 : decode cX11_act 69 = .ok (.invokevirtual 294, 3) := by decide +kernel
theorem dX11_act_72 : decode cX11_act 72 = .ok (.ireturn, 1) := by decide +kernel
theorem dX11_act_73 : decode cX11_act 73 = .ok (.iconst 0, 1) := by decide +kernel
theorem dX11_act_74 : decode cX11_act 74 = .ok (.ireturn, 1) := by decide +kernel
theorem dX11_trace_0 : decode cX11_trace 0 = .ok (.iload_n 1, 1) := by decide +kernel
theorem dX11_trace_1 : decode cX11_trace 1 = .ok (.ifCond .lt 20, 3) := by decide +kernel
theorem dX11_trace_4 : decode cX11_trace 4 = .ok (.iload_n 1, 1) := by decide +kernel
theorem dX11_trace_5 : decode cX11_trace 5 = .ok (.bipush 20, 2) := by decide +kernel
theorem dX11_trace_7 : decode cX11_trace 7 = .ok (.if_icmp .ge 14, 3) := by decide +kernel
theorem dX11_trace_10 : decode cX11_trace 10 = .ok (.iload_n 1, 1) := by decide +kernel
theorem dX11_trace_11 : decode cX11_trace 11 = .ok (.aload_n 0, 1) := by decide +kernel
theorem dX11_trace_12 : decode cX11_trace 12 = .ok (.getfield 47, 3) := by decide +kernel
theorem dX11_trace_15 : decode cX11_trace 15 = .ok (.bipush 20, 2) := by decide +kernel
theorem dX11_trace_17 : decode cX11_trace 17 = .ok (.iaload, 1) := by decide +kernel
theorem dX11_trace_18 : decode cX11_trace 18 = .ok (.if_icmp .lt 5, 3) := by decide +kernel
theorem dX11_trace_21 : decode cX11_trace 21 = .ok (.iconst (-1), 1) := by decide +kernel
theorem dX11_trace_22 : decode cX11_trace 22 = .ok (.ireturn, 1) := by decide +kernel
theorem dX11_trace_23 : decode cX11_trace 23 = .ok (.aload_n 0, 1) := by decide +kernel
theorem dX11_trace_24 : decode cX11_trace 24 = .ok (.getfield 47, 3) := by decide +kernel
theorem dX11_trace_27 : decode cX11_trace 27 = .ok (.iload_n 1, 1) := by decide +kernel
theorem dX11_trace_28 : decode cX11_trace 28 = .ok (.iaload, 1) := by decide +kernel
theorem dX11_trace_29 : decode cX11_trace 29 = .ok (.ireturn, 1) := by decide +kernel
theorem dX11_taken_0 : decode cX11_taken 0 = .ok (.iload_n 2, 1) := by decide +kernel
theorem dX11_taken_1 : decode cX11_taken 1 = .ok (.ifCond .lt 9, 3) := by decide +kernel
theorem dX11_taken_4 : decode cX11_taken 4 = .ok (.iload_n 2, 1) := by decide +kernel
theorem dX11_taken_5 : decode cX11_taken 5 = .ok (.bipush 7, 2) := by decide +kernel
theorem dX11_taken_7 : decode cX11_taken 7 = .ok (.if_icmp .lt 6, 3) := by decide +kernel
theorem dX11_taken_10 : decode cX11_taken 10 = .ok (.bipush (-2), 2) := by decide +kernel
theorem dX11_taken_12 : decode cX11_taken 12 = .ok (.ireturn, 1) := by decide +kernel
theorem dX11_taken_13 : decode cX11_taken 13 = .ok (.aload_n 0, 1) := by decide +kernel
theorem dX11_taken_14 : decode cX11_taken 14 = .ok (.getfield 12, 3) := by decide +kernel
theorem dX11_taken_17 : decode cX11_taken 17 = .ok (.iload_n 1, 1) := by decide +kernel
theorem dX11_taken_18 : decode cX11_taken 18 = .ok (.invokevirtual 110, 3) := by decide +kernel
theorem dX11_taken_21 : decode cX11_taken 21 = .ok (.astore_n 3, 1) := by decide +kernel
theorem dX11_taken_22 : decode cX11_taken 22 = .ok (.aload_n 3, 1) := by decide +kernel
theorem dX11_taken_23 : decode cX11_taken 23 = .ok (.ifnonnull 6, 3) := by decide +kernel
theorem dX11_taken_26 : decode cX11_taken 26 = .ok (.bipush (-11), 2) := by decide +kernel
theorem dX11_taken_28 : decode cX11_taken 28 = .ok (.ireturn, 1) := by decide +kernel
theorem dX11_taken_29 : decode cX11_taken 29 = .ok (.aload_n 3, 1) := by decide +kernel
theorem dX11_taken_30 : decode cX11_taken 30 = .ok (.getfield 114, 3) := by decide +kernel
theorem dX11_taken_33 : decode cX11_taken 33 = .ok (.istore 4, 2) := by decide +kernel
theorem dX11_taken_35 : decode cX11_taken 35 = .ok (.iconst 0, 1) := by decide +kernel
theorem dX11_taken_36 : decode cX11_taken 36 = .ok (.istore 5, 2) := by decide +kernel
theorem dX11_taken_38 : decode cX11_taken 38 = .ok (.iload 5, 2) := by decide +kernel
theorem dX11_taken_40 : decode cX11_taken 40 = .ok (.bipush 7, 2) := by decide +kernel
theorem dX11_taken_42 : decode cX11_taken 42 = .ok (.if_icmp .ge 40, 3) := by decide +kernel
theorem dX11_taken_45 : decode cX11_taken 45 = .ok (.iload 4, 2) := by decide +kernel
theorem dX11_taken_47 : decode cX11_taken 47 = .ok (.ifCond .lt 35, 3) := by decide +kernel
theorem dX11_taken_50 : decode cX11_taken 50 = .ok (.iload 4, 2) := by decide +kernel
theorem dX11_taken_52 : decode cX11_taken 52 = .ok (.bipush 7, 2) := by decide +kernel
theorem dX11_taken_54 : decode cX11_taken 54 = .ok (.if_icmp .ge 28, 3) := by decide +kernel
theorem dX11_taken_57 : decode cX11_taken 57 = .ok (.iload 4, 2) := by decide +kernel
theorem dX11_taken_59 : decode cX11_taken 59 = .ok (.iload_n 2, 1) := by decide +kernel
theorem dX11_taken_60 : decode cX11_taken 60 = .ok (.if_icmp .ne 8, 3) := by decide +kernel
theorem dX11_taken_63 : decode cX11_taken 63 = .ok (.aload_n 3, 1) := by decide +kernel
theorem dX11_taken_64 : decode cX11_taken 64 = .ok (.getfield 114, 3) := by decide +kernel
theorem dX11_taken_67 : decode cX11_taken 67 = .ok (.ireturn, 1) := by decide +kernel
theorem dX11_taken_68 : decode cX11_taken 68 = .ok (.getstatic 297, 3) := by decide +kernel
theorem dX11_taken_71 : decode cX11_taken 71 = .ok (.iload 4, 2) := by decide +kernel
theorem dX11_taken_73 : decode cX11_taken 73 = .ok (.iaload, 1) := by decide +kernel
theorem dX11_taken_74 : decode cX11_taken 74 = .ok (.istore 4, 2) := by decide +kernel
theorem dX11_taken_76 : decode cX11_taken 76 = .ok (.iinc 5 1, 3) := by decide +kernel
theorem dX11_taken_79 : decode cX11_taken 79 = .ok (.goto (-41), 3) := by decide +kernel
theorem dX11_taken_82 : decode cX11_taken 82 = .ok (.bipush (-12), 2) := by decide +kernel
theorem dX11_taken_84 : decode cX11_taken 84 = .ok (.ireturn, 1) := by decide +kernel
theorem dX11_count_0 : decode cX11_count 0 = .ok (.iload_n 1, 1) := by decide +kernel
theorem dX11_count_1 : decode cX11_count 1 = .ok (.tableswitch 96 0 6 #[43, 51, 59, 64, 72, 80, 88], 43) := by decide +kernel
theorem dX11_count_44 : decode cX11_count 44 = .ok (.aload_n 0, 1) := by decide +kernel
theorem dX11_count_45 : decode cX11_count 45 = .ok (.getfield 12, 3) := by decide +kernel
theorem dX11_count_48 : decode cX11_count 48 = .ok (.getfield 69, 3) := by decide +kernel
theorem dX11_count_51 : decode cX11_count 51 = .ok (.ireturn, 1) := by decide +kernel
theorem dX11_count_52 : decode cX11_count 52 = .ok (.aload_n 0, 1) := by decide +kernel
theorem dX11_count_53 : decode cX11_count 53 = .ok (.getfield 12, 3) := by decide +kernel
theorem dX11_count_56 : decode cX11_count 56 = .ok (.getfield 56, 3) := by decide +kernel
theorem dX11_count_59 : decode cX11_count 59 = .ok (.ireturn, 1) := by decide +kernel
theorem dX11_count_60 : decode cX11_count 60 = .ok (.aload_n 0, 1) := by decide +kernel
theorem dX11_count_61 : decode cX11_count 61 = .ok (.getfield 134, 3) := by decide +kernel
theorem dX11_count_64 : decode cX11_count 64 = .ok (.ireturn, 1) := by decide +kernel
theorem dX11_count_65 : decode cX11_count 65 = .ok (.aload_n 0, 1) := by decide +kernel
theorem dX11_count_66 : decode cX11_count 66 = .ok (.getfield 12, 3) := by decide +kernel
theorem dX11_count_69 : decode cX11_count 69 = .ok (.getfield 247, 3) := by decide +kernel
theorem dX11_count_72 : decode cX11_count 72 = .ok (.ireturn, 1) := by decide +kernel
theorem dX11_count_73 : decode cX11_count 73 = .ok (.aload_n 0, 1) := by decide +kernel
theorem dX11_count_74 : decode cX11_count 74 = .ok (.getfield 12, 3) := by decide +kernel
theorem dX11_count_77 : decode cX11_count 77 = .ok (.getfield 270, 3) := by decide +kernel
theorem dX11_count_80 : decode cX11_count 80 = .ok (.ireturn, 1) := by decide +kernel
theorem dX11_count_81 : decode cX11_count 81 = .ok (.aload_n 0, 1) := by decide +kernel
theorem dX11_count_82 : decode cX11_count 82 = .ok (.getfield 31, 3) := by decide +kernel
theorem dX11_count_85 : decode cX11_count 85 = .ok (.getfield 128, 3) := by decide +kernel
theorem dX11_count_88 : decode cX11_count 88 = .ok (.ireturn, 1) := by decide +kernel
theorem dX11_count_89 : decode cX11_count 89 = .ok (.aload_n 0, 1) := by decide +kernel
theorem dX11_count_90 : decode cX11_count 90 = .ok (.getfield 47, 3) := by decide +kernel
theorem dX11_count_93 : decode cX11_count 93 = .ok (.bipush 20, 2) := by decide +kernel
theorem dX11_count_95 : decode cX11_count 95 = .ok (.iaload, 1) := by decide +kernel
theorem dX11_count_96 : decode cX11_count 96 = .ok (.ireturn, 1) := by decide +kernel
theorem dX11_count_97 : decode cX11_count 97 = .ok (.bipush (-2), 2) := by decide +kernel
theorem dX11_count_99 : decode cX11_count 99 = .ok (.ireturn, 1) := by decide +kernel
theorem dX11_tape_0 : decode cX11_tape 0 = .ok (.iload_n 1, 1) := by decide +kernel
theorem dX11_tape_1 : decode cX11_tape 1 = .ok (.ifCond .lt 9, 3) := by decide +kernel
theorem dX11_tape_4 : decode cX11_tape 4 = .ok (.iload_n 1, 1) := by decide +kernel
theorem dX11_tape_5 : decode cX11_tape 5 = .ok (.bipush 6, 2) := by decide +kernel
theorem dX11_tape_7 : decode cX11_tape 7 = .ok (.if_icmp .lt 5, 3) := by decide +kernel
theorem dX11_tape_10 : decode cX11_tape 10 = .ok (.iconst (-1), 1) := by decide +kernel
theorem dX11_tape_11 : decode cX11_tape 11 = .ok (.ireturn, 1) := by decide +kernel
theorem dX11_tape_12 : decode cX11_tape 12 = .ok (.iload_n 2, 1) := by decide +kernel
theorem dX11_tape_13 : decode cX11_tape 13 = .ok (.iconst (-1), 1) := by decide +kernel
theorem dX11_tape_14 : decode cX11_tape 14 = .ok (.if_icmp .lt 8, 3) := by decide +kernel
theorem dX11_tape_17 : decode cX11_tape 17 = .ok (.iload_n 2, 1) := by decide +kernel
theorem dX11_tape_18 : decode cX11_tape 18 = .ok (.iconst 5, 1) := by decide +kernel
theorem dX11_tape_19 : decode cX11_tape 19 = .ok (.if_icmp .lt 6, 3) := by decide +kernel
theorem dX11_tape_22 : decode cX11_tape 22 = .ok (.bipush (-2), 2) := by decide +kernel
theorem dX11_tape_24 : decode cX11_tape 24 = .ok (.ireturn, 1) := by decide +kernel
theorem dX11_tape_25 : decode cX11_tape 25 = .ok (.iload_n 2, 1) := by decide +kernel
theorem dX11_tape_26 : decode cX11_tape 26 = .ok (.ifCond .lt 12, 3) := by decide +kernel
theorem dX11_tape_29 : decode cX11_tape 29 = .ok (.iload_n 3, 1) := by decide +kernel
theorem dX11_tape_30 : decode cX11_tape 30 = .ok (.bipush 60, 2) := by decide +kernel
theorem dX11_tape_32 : decode cX11_tape 32 = .ok (.if_icmp .le 6, 3) := by decide +kernel
theorem dX11_tape_35 : decode cX11_tape 35 = .ok (.bipush (-2), 2) := by decide +kernel
theorem dX11_tape_37 : decode cX11_tape 37 = .ok (.ireturn, 1) := by decide +kernel
theorem dX11_tape_38 : decode cX11_tape 38 = .ok (.iload_n 2, 1) := by decide +kernel
theorem dX11_tape_39 : decode cX11_tape 39 = .ok (.ifCond .lt 10, 3) := by decide +kernel
theorem dX11_tape_42 : decode cX11_tape 42 = .ok (.iload_n 3, 1) := by decide +kernel
theorem dX11_tape_43 : decode cX11_tape 43 = .ok (.ifCond .ge 6, 3) := by decide +kernel
theorem dX11_tape_46 : decode cX11_tape 46 = .ok (.bipush (-14), 2) := by decide +kernel
theorem dX11_tape_48 : decode cX11_tape 48 = .ok (.ireturn, 1) := by decide +kernel
theorem dX11_tape_49 : decode cX11_tape 49 = .ok (.aload_n 0, 1) := by decide +kernel
theorem dX11_tape_50 : decode cX11_tape 50 = .ok (.getfield 40, 3) := by decide +kernel
theorem dX11_tape_53 : decode cX11_tape 53 = .ok (.iload_n 1, 1) := by decide +kernel
theorem dX11_tape_54 : decode cX11_tape 54 = .ok (.iload_n 2, 1) := by decide +kernel
theorem dX11_tape_55 : decode cX11_tape 55 = .ok (.iastore, 1) := by decide +kernel
theorem dX11_tape_56 : decode cX11_tape 56 = .ok (.aload_n 0, 1) := by decide +kernel
theorem dX11_tape_57 : decode cX11_tape 57 = .ok (.getfield 44, 3) := by decide +kernel
theorem dX11_tape_60 : decode cX11_tape 60 = .ok (.iload_n 1, 1) := by decide +kernel
theorem dX11_tape_61 : decode cX11_tape 61 = .ok (.iload_n 2, 1) := by decide +kernel
theorem dX11_tape_62 : decode cX11_tape 62 = .ok (.ifCond .ge 7, 3) := by decide +kernel
theorem dX11_tape_65 : decode cX11_tape 65 = .ok (.iconst 0, 1) := by decide +kernel
theorem dX11_tape_66 : decode cX11_tape 66 = .ok (.goto 4, 3) := by decide +kernel
theorem dX11_tape_69 : decode cX11_tape 69 = .ok (.iload_n 3, 1) := by decide +kernel
theorem dX11_tape_70 : decode cX11_tape 70 = .ok (.iastore, 1) := by decide +kernel
theorem dX11_tape_71 : decode cX11_tape 71 = .ok (.iconst 0, 1) := by decide +kernel
theorem dX11_tape_72 : decode cX11_tape 72 = .ok (.istore 4, 2) := by decide +kernel
theorem dX11_tape_74 : decode cX11_tape 74 = .ok (.iload 4, 2) := by decide +kernel
theorem dX11_tape_76 : decode cX11_tape 76 = .ok (.bipush 60, 2) := by decide +kernel
theorem dX11_tape_78 : decode cX11_tape 78 = .ok (.if_icmp .ge 19, 3) := by decide +kernel
theorem dX11_tape_81 : decode cX11_tape 81 = .ok (.aload_n 0, 1) := by decide +kernel
theorem dX11_tape_82 : decode cX11_tape 82 = .ok (.getfield 37, 3) := by decide +kernel
theorem dX11_tape_85 : decode cX11_tape 85 = .ok (.iload_n 1, 1) := by decide +kernel
theorem dX11_tape_86 : decode cX11_tape 86 = .ok (.aaload, 1) := by decide +kernel
theorem dX11_tape_87 : decode cX11_tape 87 = .ok (.iload 4, 2) := by decide +kernel
theorem dX11_tape_89 : decode cX11_tape 89 = .ok (.lconst 0, 1) := by decide +kernel
theorem dX11_tape_90 : decode cX11_tape 90 = .ok (.lastore, 1) := by decide +kernel
theorem dX11_tape_91 : decode cX11_tape 91 = .ok (.iinc 4 1, 3) := by decide +kernel
theorem dX11_tape_94 : decode cX11_tape 94 = .ok (.goto (-20), 3) := by decide +kernel
theorem dX11_tape_97 : decode cX11_tape 97 = .ok (.iconst 1, 1) := by decide +kernel
theorem dX11_tape_98 : decode cX11_tape 98 = .ok (.ireturn, 1) := by decide +kernel
theorem dX11_holds_0 : decode cX11_holds 0 = .ok (.iload_n 1, 1) := by decide +kernel
theorem dX11_holds_1 : decode cX11_holds 1 = .ok (.ifCond .lt 40, 3) := by decide +kernel
theorem dX11_holds_4 : decode cX11_holds 4 = .ok (.iload_n 1, 1) := by decide +kernel
theorem dX11_holds_5 : decode cX11_holds 5 = .ok (.bipush 6, 2) := by decide +kernel
theorem dX11_holds_7 : decode cX11_holds 7 = .ok (.if_icmp .ge 34, 3) := by decide +kernel
theorem dX11_holds_10 : decode cX11_holds 10 = .ok (.aload_n 0, 1) := by decide +kernel
theorem dX11_holds_11 : decode cX11_holds 11 = .ok (.getfield 40, 3) := by decide +kernel
theorem dX11_holds_14 : decode cX11_holds 14 = .ok (.iload_n 1, 1) := by decide +kernel
theorem dX11_holds_15 : decode cX11_holds 15 = .ok (.iaload, 1) := by decide +kernel
theorem dX11_holds_16 : decode cX11_holds 16 = .ok (.ifCond .lt 25, 3) := by decide +kernel
theorem dX11_holds_19 : decode cX11_holds 19 = .ok (.lload_n 2, 1) := by decide +kernel
theorem dX11_holds_20 : decode cX11_holds 20 = .ok (.lconst 0, 1) := by decide +kernel
theorem dX11_holds_21 : decode cX11_holds 21 = .ok (.lcmp, 1) := by decide +kernel
theorem dX11_holds_22 : decode cX11_holds 22 = .ok (.ifCond .lt 19, 3) := by decide +kernel
theorem dX11_holds_25 : decode cX11_holds 25 = .ok (.lload_n 2, 1) := by decide +kernel
theorem dX11_holds_26 : decode cX11_holds 26 = .ok (.aload_n 0, 1) := by decide +kernel
theorem dX11_holds_27 : decode cX11_holds 27 = .ok (.getfield 44, 3) := by decide +kernel
theorem dX11_holds_30 : decode cX11_holds 30 = .ok (.iload_n 1, 1) := by decide +kernel
theorem dX11_holds_31 : decode cX11_holds 31 = .ok (.iaload, 1) := by decide +kernel
theorem dX11_holds_32 : decode cX11_holds 32 = .ok (.i2l, 1) := by decide +kernel
theorem dX11_holds_33 : decode cX11_holds 33 = .ok (.lcmp, 1) := by decide +kernel
theorem dX11_holds_34 : decode cX11_holds 34 = .ok (.ifCond .ge 7, 3) := by decide +kernel
theorem dX11_holds_37 : decode cX11_holds 37 = .ok (.iconst 1, 1) := by decide +kernel
theorem dX11_holds_38 : decode cX11_holds 38 = .ok (.goto 4, 3) := by decide +kernel
theorem dX11_holds_41 : decode cX11_holds 41 = .ok (.iconst 0, 1) := by decide +kernel
theorem dX11_holds_42 : decode cX11_holds 42 = .ok (.ireturn, 1) := by decide +kernel
theorem dX11_item_0 : decode cX11_item 0 = .ok (.iload_n 1, 1) := by decide +kernel
theorem dX11_item_1 : decode cX11_item 1 = .ok (.ifCond .lt 9, 3) := by decide +kernel
theorem dX11_item_4 : decode cX11_item 4 = .ok (.iload_n 1, 1) := by decide +kernel
theorem dX11_item_5 : decode cX11_item 5 = .ok (.bipush 6, 2) := by decide +kernel
theorem dX11_item_7 : decode cX11_item 7 = .ok (.if_icmp .lt 5, 3) := by decide +kernel
theorem dX11_item_10 : decode cX11_item 10 = .ok (.iconst (-1), 1) := by decide +kernel
theorem dX11_item_11 : decode cX11_item 11 = .ok (.ireturn, 1) := by decide +kernel
theorem dX11_item_12 : decode cX11_item 12 = .ok (.aload_n 0, 1) := by decide +kernel
theorem dX11_item_13 : decode cX11_item 13 = .ok (.getfield 40, 3) := by decide +kernel
theorem dX11_item_16 : decode cX11_item 16 = .ok (.iload_n 1, 1) := by decide +kernel
theorem dX11_item_17 : decode cX11_item 17 = .ok (.iaload, 1) := by decide +kernel
theorem dX11_item_18 : decode cX11_item 18 = .ok (.ifCond .ge 6, 3) := by decide +kernel
theorem dX11_item_21 : decode cX11_item 21 = .ok (.bipush (-11), 2) := by decide +kernel
theorem dX11_item_23 : decode cX11_item 23 = .ok (.ireturn, 1) := by decide +kernel
theorem dX11_item_24 : decode cX11_item 24 = .ok (.aload_n 0, 1) := by decide +kernel
theorem dX11_item_25 : decode cX11_item 25 = .ok (.iload_n 1, 1) := by decide +kernel
theorem dX11_item_26 : decode cX11_item 26 = .ok (.iload_n 2, 1) := by decide +kernel
theorem dX11_item_27 : decode cX11_item 27 = .ok (.i2l, 1) := by decide +kernel
theorem dX11_item_28 : decode cX11_item 28 = .ok (.invokevirtual 276, 3) := by decide +kernel
theorem dX11_item_31 : decode cX11_item 31 = .ok (.ifCond .ne 6, 3) := by decide +kernel
theorem dX11_item_34 : decode cX11_item 34 = .ok (.bipush (-13), 2) := by decide +kernel
theorem dX11_item_36 : decode cX11_item 36 = .ok (.ireturn, 1) := by decide +kernel
theorem dX11_item_37 : decode cX11_item 37 = .ok (.aload_n 0, 1) := by decide +kernel
theorem dX11_item_38 : decode cX11_item 38 = .ok (.getfield 37, 3) := by decide +kernel
theorem dX11_item_41 : decode cX11_item 41 = .ok (.iload_n 1, 1) := by decide +kernel
theorem dX11_item_42 : decode cX11_item 42 = .ok (.aaload, 1) := by decide +kernel
theorem dX11_item_43 : decode cX11_item 43 = .ok (.iload_n 2, 1) := by decide +kernel
theorem dX11_item_44 : decode cX11_item 44 = .ok (.aload_n 0, 1) := by decide +kernel
theorem dX11_item_45 : decode cX11_item 45 = .ok (.getfield 40, 3) := by decide +kernel
theorem dX11_item_48 : decode cX11_item 48 = .ok (.iload_n 1, 1) := by decide +kernel
theorem dX11_item_49 : decode cX11_item 49 = .ok (.iaload, 1) := by decide +kernel
theorem dX11_item_50 : decode cX11_item 50 = .ok (.lload_n 3, 1) := by decide +kernel
theorem dX11_item_51 : decode cX11_item 51 = .ok (.invokestatic 300, 3) := by decide +kernel
theorem dX11_item_54 : decode cX11_item 54 = .ok (.lastore, 1) := by decide +kernel
theorem dX11_item_55 : decode cX11_item 55 = .ok (.iconst 1, 1) := by decide +kernel
theorem dX11_item_56 : decode cX11_item 56 = .ok (.ireturn, 1) := by decide +kernel
theorem dX11_cut_0 : decode cX11_cut 0 = .ok (.iload_n 0, 1) := by decide +kernel
theorem dX11_cut_1 : decode cX11_cut 1 = .ok (.tableswitch 47 0 3 #[31, 36, 41, 45], 31) := by decide +kernel
theorem dX11_cut_32 : decode cX11_cut 32 = .ok (.lload_n 1, 1) := by decide +kernel
theorem dX11_cut_33 : decode cX11_cut 33 = .ok (.l2i, 1) := by decide +kernel
theorem dX11_cut_34 : decode cX11_cut 34 = .ok (.i2b, 1) := by decide +kernel
theorem dX11_cut_35 : decode cX11_cut 35 = .ok (.i2l, 1) := by decide +kernel
theorem dX11_cut_36 : decode cX11_cut 36 = .ok (.lreturn, 1) := by decide +kernel
theorem dX11_cut_37 : decode cX11_cut 37 = .ok (.lload_n 1, 1) := by decide +kernel
theorem dX11_cut_38 : decode cX11_cut 38 = .ok (.l2i, 1) := by decide +kernel
theorem dX11_cut_39 : decode cX11_cut 39 = .ok (.i2s, 1) := by decide +kernel
theorem dX11_cut_40 : decode cX11_cut 40 = .ok (.i2l, 1) := by decide +kernel
theorem dX11_cut_41 : decode cX11_cut 41 = .ok (.lreturn, 1) := by decide +kernel
theorem dX11_cut_42 : decode cX11_cut 42 = .ok (.lload_n 1, 1) := by decide +kernel
theorem dX11_cut_43 : decode cX11_cut 43 = .ok (.l2i, 1) := by decide +kernel
theorem dX11_cut_44 : decode cX11_cut 44 = .ok (.i2l, 1) := by decide +kernel
theorem dX11_cut_45 : decode cX11_cut 45 = .ok (.lreturn, 1) := by decide +kernel
theorem dX11_cut_46 : decode cX11_cut 46 = .ok (.lload_n 1, 1) := by decide +kernel
theorem dX11_cut_47 : decode cX11_cut 47 = .ok (.lreturn, 1) := by decide +kernel
theorem dX11_cut_48 : decode cX11_cut 48 = .ok (.lload_n 1, 1) := by decide +kernel
theorem dX11_cut_49 : decode cX11_cut 49 = .ok (.lconst 0, 1) := by decide +kernel
theorem dX11_cut_50 : decode cX11_cut 50 = .ok (.lcmp, 1) := by decide +kernel
theorem dX11_cut_51 : decode cX11_cut 51 = .ok (.ifCond .eq 7, 3) := by decide +kernel
theorem dX11_cut_54 : decode cX11_cut 54 = .ok (.lconst 1, 1) := by decide +kernel
theorem dX11_cut_55 : decode cX11_cut 55 = .ok (.goto 4, 3) := by decide +kernel
theorem dX11_cut_58 : decode cX11_cut 58 = .ok (.lconst 0, 1) := by decide +kernel
theorem dX11_cut_59 : decode cX11_cut 59 = .ok (.lreturn, 1) := by decide +kernel
theorem dX11_read_0 : decode cX11_read 0 = .ok (.aload_n 0, 1) := by decide +kernel
theorem dX11_read_1 : decode cX11_read 1 = .ok (.iload_n 1, 1) := by decide +kernel
theorem dX11_read_2 : decode cX11_read 2 = .ok (.iload_n 2, 1) := by decide +kernel
theorem dX11_read_3 : decode cX11_read 3 = .ok (.i2l, 1) := by decide +kernel
theorem dX11_read_4 : decode cX11_read 4 = .ok (.invokevirtual 276, 3) := by decide +kernel
theorem dX11_read_7 : decode cX11_read 7 = .ok (.ifCond .eq 14, 3) := by decide +kernel
theorem dX11_read_10 : decode cX11_read 10 = .ok (.aload_n 0, 1) := by decide +kernel
theorem dX11_read_11 : decode cX11_read 11 = .ok (.getfield 37, 3) := by decide +kernel
theorem dX11_read_14 : decode cX11_read 14 = .ok (.iload_n 1, 1) := by decide +kernel
theorem dX11_read_15 : decode cX11_read 15 = .ok (.aaload, 1) := by decide +kernel
theorem dX11_read_16 : decode cX11_read 16 = .ok (.iload_n 2, 1) := by decide +kernel
theorem dX11_read_17 : decode cX11_read 17 = .ok (.laload, 1) := by decide +kernel
theorem dX11_read_18 : decode cX11_read 18 = .ok (.goto 6, 3) := by decide +kernel
theorem dX11_read_21 : decode cX11_read 21 = .ok (.ldc2_w 264, 3) := by decide +kernel
theorem dX11_read_24 : decode cX11_read 24 = .ok (.lreturn, 1) := by decide +kernel
theorem dX11_shift_0 : decode cX11_shift 0 = .ok (.iload_n 1, 1) := by decide +kernel
theorem dX11_shift_1 : decode cX11_shift 1 = .ok (.ifCond .lt 19, 3) := by decide +kernel
theorem dX11_shift_4 : decode cX11_shift 4 = .ok (.iload_n 1, 1) := by decide +kernel
theorem dX11_shift_5 : decode cX11_shift 5 = .ok (.bipush 6, 2) := by decide +kernel
theorem dX11_shift_7 : decode cX11_shift 7 = .ok (.if_icmp .ge 13, 3) := by decide +kernel
theorem dX11_shift_10 : decode cX11_shift 10 = .ok (.iload_n 3, 1) := by decide +kernel
theorem dX11_shift_11 : decode cX11_shift 11 = .ok (.ifCond .lt 9, 3) := by decide +kernel
theorem dX11_shift_14 : decode cX11_shift 14 = .ok (.iload_n 3, 1) := by decide +kernel
theorem dX11_shift_15 : decode cX11_shift 15 = .ok (.bipush 6, 2) := by decide +kernel
theorem dX11_shift_17 : decode cX11_shift 17 = .ok (.if_icmp .lt 5, 3) := by decide +kernel
theorem dX11_shift_20 : decode cX11_shift 20 = .ok (.iconst (-1), 1) := by decide +kernel
theorem dX11_shift_21 : decode cX11_shift 21 = .ok (.ireturn, 1) := by decide +kernel
theorem dX11_shift_22 : decode cX11_shift 22 = .ok (.aload_n 0, 1) := by decide +kernel
theorem dX11_shift_23 : decode cX11_shift 23 = .ok (.getfield 40, 3) := by decide +kernel
theorem dX11_shift_26 : decode cX11_shift 26 = .ok (.iload_n 1, 1) := by decide +kernel
theorem dX11_shift_27 : decode cX11_shift 27 = .ok (.iaload, 1) := by decide +kernel
theorem dX11_shift_28 : decode cX11_shift 28 = .ok (.ifCond .lt 12, 3) := by decide +kernel
theorem dX11_shift_31 : decode cX11_shift 31 = .ok (.aload_n 0, 1) := by decide +kernel
theorem dX11_shift_32 : decode cX11_shift 32 = .ok (.getfield 40, 3) := by decide +kernel
theorem dX11_shift_35 : decode cX11_shift 35 = .ok (.iload_n 3, 1) := by decide +kernel
theorem dX11_shift_36 : decode cX11_shift 36 = .ok (.iaload, 1) := by decide +kernel
theorem dX11_shift_37 : decode cX11_shift 37 = .ok (.ifCond .ge 6, 3) := by decide +kernel
theorem dX11_shift_40 : decode cX11_shift 40 = .ok (.bipush (-11), 2) := by decide +kernel
theorem dX11_shift_42 : decode cX11_shift 42 = .ok (.ireturn, 1) := by decide +kernel
theorem dX11_shift_43 : decode cX11_shift 43 = .ok (.aload_n 0, 1) := by decide +kernel
theorem dX11_shift_44 : decode cX11_shift 44 = .ok (.getfield 40, 3) := by decide +kernel
theorem dX11_shift_47 : decode cX11_shift 47 = .ok (.iload_n 1, 1) := by decide +kernel
theorem dX11_shift_48 : decode cX11_shift 48 = .ok (.iaload, 1) := by decide +kernel
theorem dX11_shift_49 : decode cX11_shift 49 = .ok (.aload_n 0, 1) := by decide +kernel
theorem dX11_shift_50 : decode cX11_shift 50 = .ok (.getfield 40, 3) := by decide +kernel
theorem dX11_shift_53 : decode cX11_shift 53 = .ok (.iload_n 3, 1) := by decide +kernel
theorem dX11_shift_54 : decode cX11_shift 54 = .ok (.iaload, 1) := by decide +kernel
theorem dX11_shift_55 : decode cX11_shift 55 = .ok (.if_icmp .eq 6, 3) := by decide +kernel
theorem dX11_shift_58 : decode cX11_shift 58 = .ok (.bipush (-12), 2) := by decide +kernel
theorem dX11_shift_60 : decode cX11_shift 60 = .ok (.ireturn, 1) := by decide +kernel
theorem dX11_shift_61 : decode cX11_shift 61 = .ok (.iload 5, 2) := by decide +kernel
theorem dX11_shift_63 : decode cX11_shift 63 = .ok (.ifCond .lt 12, 3) := by decide +kernel
theorem dX11_shift_66 : decode cX11_shift 66 = .ok (.iload_n 2, 1) := by decide +kernel
theorem dX11_shift_67 : decode cX11_shift 67 = .ok (.ifCond .lt 8, 3) := by decide +kernel
theorem dX11_shift_70 : decode cX11_shift 70 = .ok (.iload 4, 2) := by decide +kernel
theorem dX11_shift_72 : decode cX11_shift 72 = .ok (.ifCond .ge 6, 3) := by decide +kernel
theorem dX11_shift_75 : decode cX11_shift 75 = .ok (.bipush (-13), 2) := by decide +kernel
theorem dX11_shift_77 : decode cX11_shift 77 = .ok (.ireturn, 1) := by decide +kernel
theorem dX11_shift_78 : decode cX11_shift 78 = .ok (.iload_n 2, 1) := by decide +kernel
theorem dX11_shift_79 : decode cX11_shift 79 = .ok (.i2l, 1) := by decide +kernel
theorem dX11_shift_80 : decode cX11_shift 80 = .ok (.iload 5, 2) := by decide +kernel
theorem dX11_shift_82 : decode cX11_shift 82 = .ok (.i2l, 1) := by decide +kernel
theorem dX11_shift_83 : decode cX11_shift 83 = .ok (.ladd, 1) := by decide +kernel
theorem dX11_shift_84 : decode cX11_shift 84 = .ok (.aload_n 0, 1) := by decide +kernel
theorem dX11_shift_85 : decode cX11_shift 85 = .ok (.getfield 44, 3) := by decide +kernel
theorem dX11_shift_88 : decode cX11_shift 88 = .ok (.iload_n 1, 1) := by decide +kernel
theorem dX11_shift_89 : decode cX11_shift 89 = .ok (.iaload, 1) := by decide +kernel
theorem dX11_shift_90 : decode cX11_shift 90 = .ok (.i2l, 1) := by decide +kernel
theorem dX11_shift_91 : decode cX11_shift 91 = .ok (.lcmp, 1) := by decide +kernel
theorem dX11_shift_92 : decode cX11_shift 92 = .ok (.ifCond .gt 21, 3) := by decide +kernel
theorem dX11_shift_95 : decode cX11_shift 95 = .ok (.iload 4, 2) := by decide +kernel
theorem dX11_shift_97 : decode cX11_shift 97 = .ok (.i2l, 1) := by decide +kernel
theorem dX11_shift_98 : decode cX11_shift 98 = .ok (.iload 5, 2) := by decide +kernel
theorem dX11_shift_100 : decode cX11_shift 100 = .ok (.i2l, 1) := by decide +kernel
theorem dX11_shift_101 : decode cX11_shift 101 = .ok (.ladd, 1) := by decide +kernel
theorem dX11_shift_102 : decode cX11_shift 102 = .ok (.aload_n 0, 1) := by decide +kernel
theorem dX11_shift_103 : decode cX11_shift 103 = .ok (.getfield 44, 3) := by decide +kernel
theorem dX11_shift_106 : decode cX11_shift 106 = .ok (.iload_n 3, 1) := by decide +kernel
theorem dX11_shift_107 : decode cX11_shift 107 = .ok (.iaload, 1) := by decide +kernel
theorem dX11_shift_108 : decode cX11_shift 108 = .ok (.i2l, 1) := by decide +kernel
theorem dX11_shift_109 : decode cX11_shift 109 = .ok (.lcmp, 1) := by decide +kernel
theorem dX11_shift_110 : decode cX11_shift 110 = .ok (.ifCond .le 6, 3) := by decide +kernel
theorem dX11_shift_113 : decode cX11_shift 113 = .ok (.bipush (-13), 2) := by decide +kernel
theorem dX11_shift_115 : decode cX11_shift 115 = .ok (.ireturn, 1) := by decide +kernel
theorem dX11_shift_116 : decode cX11_shift 116 = .ok (.aload_n 0, 1) := by decide +kernel
theorem dX11_shift_117 : decode cX11_shift 117 = .ok (.getfield 37, 3) := by decide +kernel
theorem dX11_shift_120 : decode cX11_shift 120 = .ok (.iload_n 1, 1) := by decide +kernel
theorem dX11_shift_121 : decode cX11_shift 121 = .ok (.aaload, 1) := by decide +kernel
theorem dX11_shift_122 : decode cX11_shift 122 = .ok (.iload_n 2, 1) := by decide +kernel
theorem dX11_shift_123 : decode cX11_shift 123 = .ok (.aload_n 0, 1) := by decide +kernel
theorem dX11_shift_124 : decode cX11_shift 124 = .ok (.getfield 37, 3) := by decide +kernel
theorem dX11_shift_127 : decode cX11_shift 127 = .ok (.iload_n 3, 1) := by decide +kernel
theorem dX11_shift_128 : decode cX11_shift 128 = .ok (.aaload, 1) := by decide +kernel
theorem dX11_shift_129 : decode cX11_shift 129 = .ok (.iload 4, 2) := by decide +kernel
theorem dX11_shift_131 : decode cX11_shift 131 = .ok (.iload 5, 2) := by decide +kernel
theorem dX11_shift_133 : decode cX11_shift 133 = .ok (.invokestatic 224, 3) := by decide +kernel
theorem dX11_shift_136 : decode cX11_shift 136 = .ok (.iload 5, 2) := by decide +kernel
theorem dX11_shift_138 : decode cX11_shift 138 = .ok (.ireturn, 1) := by decide +kernel
