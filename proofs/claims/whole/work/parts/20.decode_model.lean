theorem d_Model_init_0 : decode b_Model_init 0 = .ok (.aload_n 0, 1) := by decide +kernel
theorem d_Model_init_1 : decode b_Model_init 1 = .ok (.invokespecial 1, 3) := by decide +kernel
theorem d_Model_init_4 : decode b_Model_init 4 = .ok (.aload_n 0, 1) := by decide +kernel
theorem d_Model_init_5 : decode b_Model_init 5 = .ok (.iconst 1, 1) := by decide +kernel
theorem d_Model_init_6 : decode b_Model_init 6 = .ok (.putfield 7, 3) := by decide +kernel
theorem d_Model_init_9 : decode b_Model_init 9 = .ok (.aload_n 0, 1) := by decide +kernel
theorem d_Model_init_10 : decode b_Model_init 10 = .ok (.bipush 100, 2) := by decide +kernel
theorem d_Model_init_12 : decode b_Model_init 12 = .ok (.newarray .int, 2) := by decide +kernel
theorem d_Model_init_14 : decode b_Model_init 14 = .ok (.putfield 13, 3) := by decide +kernel
theorem d_Model_init_17 : decode b_Model_init 17 = .ok (.aload_n 0, 1) := by decide +kernel
theorem d_Model_init_18 : decode b_Model_init 18 = .ok (.bipush 100, 2) := by decide +kernel
theorem d_Model_init_20 : decode b_Model_init 20 = .ok (.newarray .int, 2) := by decide +kernel
theorem d_Model_init_22 : decode b_Model_init 22 = .ok (.putfield 17, 3) := by decide +kernel
theorem d_Model_init_25 : decode b_Model_init 25 = .ok (.aload_n 0, 1) := by decide +kernel
theorem d_Model_init_26 : decode b_Model_init 26 = .ok (.bipush 10, 2) := by decide +kernel
theorem d_Model_init_28 : decode b_Model_init 28 = .ok (.newarray .int, 2) := by decide +kernel
theorem d_Model_init_30 : decode b_Model_init 30 = .ok (.putfield 20, 3) := by decide +kernel
theorem d_Model_init_33 : decode b_Model_init 33 = .ok (.aload_n 0, 1) := by decide +kernel
theorem d_Model_init_34 : decode b_Model_init 34 = .ok (.bipush 100, 2) := by decide +kernel
theorem d_Model_init_36 : decode b_Model_init 36 = .ok (.newarray .int, 2) := by decide +kernel
theorem d_Model_init_38 : decode b_Model_init 38 = .ok (.putfield 23, 3) := by decide +kernel
theorem d_Model_init_41 : decode b_Model_init 41 = .ok (.aload_n 0, 1) := by decide +kernel
theorem d_Model_init_42 : decode b_Model_init 42 = .ok (.bipush 12, 2) := by decide +kernel
theorem d_Model_init_44 : decode b_Model_init 44 = .ok (.newarray .int, 2) := by decide +kernel
theorem d_Model_init_46 : decode b_Model_init 46 = .ok (.putfield 26, 3) := by decide +kernel
theorem d_Model_init_49 : decode b_Model_init 49 = .ok (.aload_n 0, 1) := by decide +kernel
theorem d_Model_init_50 : decode b_Model_init 50 = .ok (.bipush 12, 2) := by decide +kernel
theorem d_Model_init_52 : decode b_Model_init 52 = .ok (.newarray .int, 2) := by decide +kernel
theorem d_Model_init_54 : decode b_Model_init 54 = .ok (.putfield 29, 3) := by decide +kernel
theorem d_Model_init_57 : decode b_Model_init 57 = .ok (.aload_n 0, 1) := by decide +kernel
theorem d_Model_init_58 : decode b_Model_init 58 = .ok (.bipush 12, 2) := by decide +kernel
theorem d_Model_init_60 : decode b_Model_init 60 = .ok (.newarray .int, 2) := by decide +kernel
theorem d_Model_init_62 : decode b_Model_init 62 = .ok (.putfield 32, 3) := by decide +kernel
theorem d_Model_init_65 : decode b_Model_init 65 = .ok (.aload_n 0, 1) := by decide +kernel
theorem d_Model_init_66 : decode b_Model_init 66 = .ok (.bipush 12, 2) := by decide +kernel
theorem d_Model_init_68 : decode b_Model_init 68 = .ok (.newarray .int, 2) := by decide +kernel
theorem d_Model_init_70 : decode b_Model_init 70 = .ok (.putfield 35, 3) := by decide +kernel
theorem d_Model_init_73 : decode b_Model_init 73 = .ok (.aload_n 0, 1) := by decide +kernel
theorem d_Model_init_74 : decode b_Model_init 74 = .ok (.bipush 12, 2) := by decide +kernel
theorem d_Model_init_76 : decode b_Model_init 76 = .ok (.newarray .int, 2) := by decide +kernel
theorem d_Model_init_78 : decode b_Model_init 78 = .ok (.putfield 38, 3) := by decide +kernel
theorem d_Model_init_81 : decode b_Model_init 81 = .ok (.aload_n 0, 1) := by decide +kernel
theorem d_Model_init_82 : decode b_Model_init 82 = .ok (.bipush 12, 2) := by decide +kernel
theorem d_Model_init_84 : decode b_Model_init 84 = .ok (.newarray .int, 2) := by decide +kernel
theorem d_Model_init_86 : decode b_Model_init 86 = .ok (.putfield 41, 3) := by decide +kernel
theorem d_Model_init_89 : decode b_Model_init 89 = .ok (.aload_n 0, 1) := by decide +kernel
theorem d_Model_init_90 : decode b_Model_init 90 = .ok (.bipush 12, 2) := by decide +kernel
theorem d_Model_init_92 : decode b_Model_init 92 = .ok (.newarray .int, 2) := by decide +kernel
theorem d_Model_init_94 : decode b_Model_init 94 = .ok (.putfield 44, 3) := by decide +kernel
theorem d_Model_init_97 : decode b_Model_init 97 = .ok (.aload_n 0, 1) := by decide +kernel
theorem d_Model_init_98 : decode b_Model_init 98 = .ok (.bipush 12, 2) := by decide +kernel
theorem d_Model_init_100 : decode b_Model_init 100 = .ok (.newarray .int, 2) := by decide +kernel
theorem d_Model_init_102 : decode b_Model_init 102 = .ok (.putfield 47, 3) := by decide +kernel
theorem d_Model_init_105 : decode b_Model_init 105 = .ok (.aload_n 0, 1) := by decide +kernel
theorem d_Model_init_106 : decode b_Model_init 106 = .ok (.bipush 12, 2) := by decide +kernel
theorem d_Model_init_108 : decode b_Model_init 108 = .ok (.newarray .int, 2) := by decide +kernel
theorem d_Model_init_110 : decode b_Model_init 110 = .ok (.putfield 50, 3) := by decide +kernel
theorem d_Model_init_113 : decode b_Model_init 113 = .ok (.aload_n 0, 1) := by decide +kernel
theorem d_Model_init_114 : decode b_Model_init 114 = .ok (.bipush 12, 2) := by decide +kernel
theorem d_Model_init_116 : decode b_Model_init 116 = .ok (.newarray .int, 2) := by decide +kernel
theorem d_Model_init_118 : decode b_Model_init 118 = .ok (.putfield 53, 3) := by decide +kernel
theorem d_Model_init_121 : decode b_Model_init 121 = .ok (.aload_n 0, 1) := by decide +kernel
theorem d_Model_init_122 : decode b_Model_init 122 = .ok (.bipush 12, 2) := by decide +kernel
theorem d_Model_init_124 : decode b_Model_init 124 = .ok (.newarray .int, 2) := by decide +kernel
theorem d_Model_init_126 : decode b_Model_init 126 = .ok (.putfield 56, 3) := by decide +kernel
theorem d_Model_init_129 : decode b_Model_init 129 = .ok (.aload_n 0, 1) := by decide +kernel
theorem d_Model_init_130 : decode b_Model_init 130 = .ok (.bipush 12, 2) := by decide +kernel
theorem d_Model_init_132 : decode b_Model_init 132 = .ok (.newarray .int, 2) := by decide +kernel
theorem d_Model_init_134 : decode b_Model_init 134 = .ok (.putfield 59, 3) := by decide +kernel
theorem d_Model_init_137 : decode b_Model_init 137 = .ok (.aload_n 0, 1) := by decide +kernel
theorem d_Model_init_138 : decode b_Model_init 138 = .ok (.bipush 12, 2) := by decide +kernel
theorem d_Model_init_140 : decode b_Model_init 140 = .ok (.newarray .boolean, 2) := by decide +kernel
theorem d_Model_init_142 : decode b_Model_init 142 = .ok (.putfield 62, 3) := by decide +kernel
theorem d_Model_init_145 : decode b_Model_init 145 = .ok (.aload_n 0, 1) := by decide +kernel
theorem d_Model_init_146 : decode b_Model_init 146 = .ok (.iconst 4, 1) := by decide +kernel
theorem d_Model_init_147 : decode b_Model_init 147 = .ok (.newarray .int, 2) := by decide +kernel
theorem d_Model_init_149 : decode b_Model_init 149 = .ok (.putfield 66, 3) := by decide +kernel
theorem d_Model_init_152 : decode b_Model_init 152 = .ok (.aload_n 0, 1) := by decide +kernel
theorem d_Model_init_153 : decode b_Model_init 153 = .ok (.bipush 64, 2) := by decide +kernel
theorem d_Model_init_155 : decode b_Model_init 155 = .ok (.newarray .int, 2) := by decide +kernel
theorem d_Model_init_157 : decode b_Model_init 157 = .ok (.putfield 69, 3) := by decide +kernel
theorem d_Model_init_160 : decode b_Model_init 160 = .ok (.aload_n 0, 1) := by decide +kernel
theorem d_Model_init_161 : decode b_Model_init 161 = .ok (.bipush 64, 2) := by decide +kernel
theorem d_Model_init_163 : decode b_Model_init 163 = .ok (.newarray .int, 2) := by decide +kernel
theorem d_Model_init_165 : decode b_Model_init 165 = .ok (.putfield 72, 3) := by decide +kernel
theorem d_Model_init_168 : decode b_Model_init 168 = .ok (.aload_n 0, 1) := by decide +kernel
theorem d_Model_init_169 : decode b_Model_init 169 = .ok (.bipush 64, 2) := by decide +kernel
theorem d_Model_init_171 : decode b_Model_init 171 = .ok (.newarray .int, 2) := by decide +kernel
theorem d_Model_init_173 : decode b_Model_init 173 = .ok (.putfield 75, 3) := by decide +kernel
theorem d_Model_init_176 : decode b_Model_init 176 = .ok (.aload_n 0, 1) := by decide +kernel
theorem d_Model_init_177 : decode b_Model_init 177 = .ok (.bipush 64, 2) := by decide +kernel
theorem d_Model_init_179 : decode b_Model_init 179 = .ok (.newarray .int, 2) := by decide +kernel
theorem d_Model_init_181 : decode b_Model_init 181 = .ok (.putfield 78, 3) := by decide +kernel
theorem d_Model_init_184 : decode b_Model_init 184 = .ok (.aload_n 0, 1) := by decide +kernel
theorem d_Model_init_185 : decode b_Model_init 185 = .ok (.bipush 64, 2) := by decide +kernel
theorem d_Model_init_187 : decode b_Model_init 187 = .ok (.newarray .int, 2) := by decide +kernel
theorem d_Model_init_189 : decode b_Model_init 189 = .ok (.putfield 81, 3) := by decide +kernel
theorem d_Model_init_192 : decode b_Model_init 192 = .ok (.aload_n 0, 1) := by decide +kernel
theorem d_Model_init_193 : decode b_Model_init 193 = .ok (.bipush 64, 2) := by decide +kernel
theorem d_Model_init_195 : decode b_Model_init 195 = .ok (.newarray .int, 2) := by decide +kernel
theorem d_Model_init_197 : decode b_Model_init 197 = .ok (.putfield 84, 3) := by decide +kernel
theorem d_Model_init_200 : decode b_Model_init 200 = .ok (.aload_n 0, 1) := by decide +kernel
theorem d_Model_init_201 : decode b_Model_init 201 = .ok (.bipush 64, 2) := by decide +kernel
theorem d_Model_init_203 : decode b_Model_init 203 = .ok (.newarray .boolean, 2) := by decide +kernel
theorem d_Model_init_205 : decode b_Model_init 205 = .ok (.putfield 87, 3) := by decide +kernel
theorem d_Model_init_208 : decode b_Model_init 208 = .ok (.aload_n 0, 1) := by decide +kernel
theorem d_Model_init_209 : decode b_Model_init 209 = .ok (.bipush 64, 2) := by decide +kernel
theorem d_Model_init_211 : decode b_Model_init 211 = .ok (.newarray .boolean, 2) := by decide +kernel
theorem d_Model_init_213 : decode b_Model_init 213 = .ok (.putfield 90, 3) := by decide +kernel
theorem d_Model_init_216 : decode b_Model_init 216 = .ok (.aload_n 0, 1) := by decide +kernel
theorem d_Model_init_217 : decode b_Model_init 217 = .ok (.bipush 60, 2) := by decide +kernel
theorem d_Model_init_219 : decode b_Model_init 219 = .ok (.newarray .int, 2) := by decide +kernel
theorem d_Model_init_221 : decode b_Model_init 221 = .ok (.putfield 93, 3) := by decide +kernel
theorem d_Model_init_224 : decode b_Model_init 224 = .ok (.aload_n 0, 1) := by decide +kernel
theorem d_Model_init_225 : decode b_Model_init 225 = .ok (.bipush 30, 2) := by decide +kernel
theorem d_Model_init_227 : decode b_Model_init 227 = .ok (.newarray .int, 2) := by decide +kernel
theorem d_Model_init_229 : decode b_Model_init 229 = .ok (.putfield 96, 3) := by decide +kernel
theorem d_Model_init_232 : decode b_Model_init 232 = .ok (.return_, 1) := by decide +kernel
theorem d_Model_thrown_0 : decode b_Model_thrown 0 = .ok (.aload_n 0, 1) := by decide +kernel
theorem d_Model_thrown_1 : decode b_Model_thrown 1 = .ok (.getfield 99, 3) := by decide +kernel
theorem d_Model_thrown_4 : decode b_Model_thrown 4 = .ok (.ireturn, 1) := by decide +kernel
theorem d_Model_in_0 : decode b_Model_in 0 = .ok (.iload_n 0, 1) := by decide +kernel
theorem d_Model_in_1 : decode b_Model_in 1 = .ok (.iload_n 1, 1) := by decide +kernel
theorem d_Model_in_2 : decode b_Model_in 2 = .ok (.if_icmp .lt 12, 3) := by decide +kernel
theorem d_Model_in_5 : decode b_Model_in 5 = .ok (.iload_n 0, 1) := by decide +kernel
theorem d_Model_in_6 : decode b_Model_in 6 = .ok (.iload_n 2, 1) := by decide +kernel
theorem d_Model_in_7 : decode b_Model_in 7 = .ok (.if_icmp .gt 7, 3) := by decide +kernel
theorem d_Model_in_10 : decode b_Model_in 10 = .ok (.iconst 1, 1) := by decide +kernel
theorem d_Model_in_11 : decode b_Model_in 11 = .ok (.goto 4, 3) := by decide +kernel
theorem d_Model_in_14 : decode b_Model_in 14 = .ok (.iconst 0, 1) := by decide +kernel
theorem d_Model_in_15 : decode b_Model_in 15 = .ok (.ireturn, 1) := by decide +kernel
theorem d_Model_fails_0 : decode b_Model_fails 0 = .ok (.iload_n 1, 1) := by decide +kernel
theorem d_Model_fails_1 : decode b_Model_fails 1 = .ok (.ifCond .eq 15, 3) := by decide +kernel
theorem d_Model_fails_4 : decode b_Model_fails 4 = .ok (.aload_n 0, 1) := by decide +kernel
theorem d_Model_fails_5 : decode b_Model_fails 5 = .ok (.getfield 99, 3) := by decide +kernel
theorem d_Model_fails_8 : decode b_Model_fails 8 = .ok (.ifCond .ne 8, 3) := by decide +kernel
theorem d_Model_fails_11 : decode b_Model_fails 11 = .ok (.aload_n 0, 1) := by decide +kernel
theorem d_Model_fails_12 : decode b_Model_fails 12 = .ok (.iload_n 2, 1) := by decide +kernel
theorem d_Model_fails_13 : decode b_Model_fails 13 = .ok (.putfield 99, 3) := by decide +kernel
theorem d_Model_fails_16 : decode b_Model_fails 16 = .ok (.aload_n 0, 1) := by decide +kernel
theorem d_Model_fails_17 : decode b_Model_fails 17 = .ok (.getfield 99, 3) := by decide +kernel
theorem d_Model_fails_20 : decode b_Model_fails 20 = .ok (.ifCond .eq 7, 3) := by decide +kernel
theorem d_Model_fails_23 : decode b_Model_fails 23 = .ok (.iconst 1, 1) := by decide +kernel
theorem d_Model_fails_24 : decode b_Model_fails 24 = .ok (.goto 4, 3) := by decide +kernel
theorem d_Model_fails_27 : decode b_Model_fails 27 = .ok (.iconst 0, 1) := by decide +kernel
theorem d_Model_fails_28 : decode b_Model_fails 28 = .ok (.ireturn, 1) := by decide +kernel
theorem d_Model_fits_0 : decode b_Model_fits 0 = .ok (.iload_n 0, 1) := by decide +kernel
theorem d_Model_fits_1 : decode b_Model_fits 1 = .ok (.iconst 2, 1) := by decide +kernel
theorem d_Model_fits_2 : decode b_Model_fits 2 = .ok (.if_icmp .ge 11, 3) := by decide +kernel
theorem d_Model_fits_5 : decode b_Model_fits 5 = .ok (.iload_n 1, 1) := by decide +kernel
theorem d_Model_fits_6 : decode b_Model_fits 6 = .ok (.iconst 1, 1) := by decide +kernel
theorem d_Model_fits_7 : decode b_Model_fits 7 = .ok (.bipush 20, 2) := by decide +kernel
theorem d_Model_fits_9 : decode b_Model_fits 9 = .ok (.invokestatic 102, 3) := by decide +kernel
theorem d_Model_fits_12 : decode b_Model_fits 12 = .ok (.ireturn, 1) := by decide +kernel
theorem d_Model_fits_13 : decode b_Model_fits 13 = .ok (.iload_n 0, 1) := by decide +kernel
theorem d_Model_fits_14 : decode b_Model_fits 14 = .ok (.iconst 3, 1) := by decide +kernel
theorem d_Model_fits_15 : decode b_Model_fits 15 = .ok (.if_icmp .eq 9, 3) := by decide +kernel
theorem d_Model_fits_18 : decode b_Model_fits 18 = .ok (.iload_n 0, 1) := by decide +kernel
theorem d_Model_fits_19 : decode b_Model_fits 19 = .ok (.bipush 6, 2) := by decide +kernel
theorem d_Model_fits_21 : decode b_Model_fits 21 = .ok (.if_icmp .ne 11, 3) := by decide +kernel
theorem d_Model_fits_24 : decode b_Model_fits 24 = .ok (.iload_n 1, 1) := by decide +kernel
theorem d_Model_fits_25 : decode b_Model_fits 25 = .ok (.iconst 0, 1) := by decide +kernel
theorem d_Model_fits_26 : decode b_Model_fits 26 = .ok (.bipush 99, 2) := by decide +kernel
theorem d_Model_fits_28 : decode b_Model_fits 28 = .ok (.invokestatic 102, 3) := by decide +kernel
theorem d_Model_fits_31 : decode b_Model_fits 31 = .ok (.ireturn, 1) := by decide +kernel
theorem d_Model_fits_32 : decode b_Model_fits 32 = .ok (.iload_n 0, 1) := by decide +kernel
theorem d_Model_fits_33 : decode b_Model_fits 33 = .ok (.iconst 4, 1) := by decide +kernel
theorem d_Model_fits_34 : decode b_Model_fits 34 = .ok (.if_icmp .eq 8, 3) := by decide +kernel
theorem d_Model_fits_37 : decode b_Model_fits 37 = .ok (.iload_n 0, 1) := by decide +kernel
theorem d_Model_fits_38 : decode b_Model_fits 38 = .ok (.iconst 5, 1) := by decide +kernel
theorem d_Model_fits_39 : decode b_Model_fits 39 = .ok (.if_icmp .ne 13, 3) := by decide +kernel
theorem d_Model_fits_42 : decode b_Model_fits 42 = .ok (.iload_n 1, 1) := by decide +kernel
theorem d_Model_fits_43 : decode b_Model_fits 43 = .ok (.iconst 0, 1) := by decide +kernel
theorem d_Model_fits_44 : decode b_Model_fits 44 = .ok (.bipush 9, 2) := by decide +kernel
theorem d_Model_fits_46 : decode b_Model_fits 46 = .ok (.invokestatic 102, 3) := by decide +kernel
theorem d_Model_fits_49 : decode b_Model_fits 49 = .ok (.ifCond .eq 7, 3) := by decide +kernel
theorem d_Model_fits_52 : decode b_Model_fits 52 = .ok (.iconst 1, 1) := by decide +kernel
theorem d_Model_fits_53 : decode b_Model_fits 53 = .ok (.goto 4, 3) := by decide +kernel
theorem d_Model_fits_56 : decode b_Model_fits 56 = .ok (.iconst 0, 1) := by decide +kernel
theorem d_Model_fits_57 : decode b_Model_fits 57 = .ok (.ireturn, 1) := by decide +kernel
theorem d_Model_action_0 : decode b_Model_action 0 = .ok (.aload_n 0, 1) := by decide +kernel
theorem d_Model_action_1 : decode b_Model_action 1 = .ok (.iconst 0, 1) := by decide +kernel
theorem d_Model_action_2 : decode b_Model_action 2 = .ok (.putfield 99, 3) := by decide +kernel
theorem d_Model_action_5 : decode b_Model_action 5 = .ok (.aload_n 0, 1) := by decide +kernel
theorem d_Model_action_6 : decode b_Model_action 6 = .ok (.iload_n 1, 1) := by decide +kernel
theorem d_Model_action_7 : decode b_Model_action 7 = .ok (.iconst 0, 1) := by decide +kernel
theorem d_Model_action_8 : decode b_Model_action 8 = .ok (.bipush 9, 2) := by decide +kernel
theorem d_Model_action_10 : decode b_Model_action 10 = .ok (.invokestatic 102, 3) := by decide +kernel
theorem d_Model_action_13 : decode b_Model_action 13 = .ok (.ifCond .eq 21, 3) := by decide +kernel
theorem d_Model_action_16 : decode b_Model_action 16 = .ok (.iload_n 2, 1) := by decide +kernel
theorem d_Model_action_17 : decode b_Model_action 17 = .ok (.iconst 0, 1) := by decide +kernel
theorem d_Model_action_18 : decode b_Model_action 18 = .ok (.bipush 11, 2) := by decide +kernel
theorem d_Model_action_20 : decode b_Model_action 20 = .ok (.invokestatic 102, 3) := by decide +kernel
theorem d_Model_action_23 : decode b_Model_action 23 = .ok (.ifCond .eq 11, 3) := by decide +kernel
theorem d_Model_action_26 : decode b_Model_action 26 = .ok (.iload_n 2, 1) := by decide +kernel
theorem d_Model_action_27 : decode b_Model_action 27 = .ok (.iload_n 3, 1) := by decide +kernel
theorem d_Model_action_28 : decode b_Model_action 28 = .ok (.invokestatic 106, 3) := by decide +kernel
theorem d_Model_action_31 : decode b_Model_action 31 = .ok (.ifCond .ne 7, 3) := by decide +kernel
theorem d_Model_action_34 : decode b_Model_action 34 = .ok (.iconst 1, 1) := by decide +kernel
theorem d_Model_action_35 : decode b_Model_action 35 = .ok (.goto 4, 3) := by decide +kernel
theorem d_Model_action_38 : decode b_Model_action 38 = .ok (.iconst 0, 1) := by decide +kernel
theorem d_Model_action_39 : decode b_Model_action 39 = .ok (.iconst 1, 1) := by decide +kernel
theorem d_Model_action_40 : decode b_Model_action 40 = .ok (.invokevirtual 110, 3) := by decide +kernel
theorem d_Model_action_43 : decode b_Model_action 43 = .ok (.ifCond .eq 5, 3) := by decide +kernel
theorem d_Model_action_46 : decode b_Model_action 46 = .ok (.iconst 0, 1) := by decide +kernel
theorem d_Model_action_47 : decode b_Model_action 47 = .ok (.ireturn, 1) := by decide +kernel
theorem d_Model_action_48 : decode b_Model_action 48 = .ok (.aload_n 0, 1) := by decide +kernel
theorem d_Model_action_49 : decode b_Model_action 49 = .ok (.aload_n 0, 1) := by decide +kernel
theorem d_Model_action_50 : decode b_Model_action 50 = .ok (.getfield 20, 3) := by decide +kernel
theorem d_Model_action_53 : decode b_Model_action 53 = .ok (.iload_n 1, 1) := by decide +kernel
theorem d_Model_action_54 : decode b_Model_action 54 = .ok (.iaload, 1) := by decide +kernel
theorem d_Model_action_55 : decode b_Model_action 55 = .ok (.bipush 10, 2) := by decide +kernel
theorem d_Model_action_57 : decode b_Model_action 57 = .ok (.if_icmp .ne 7, 3) := by decide +kernel
theorem d_Model_action_60 : decode b_Model_action 60 = .ok (.iconst 1, 1) := by decide +kernel
theorem d_Model_action_61 : decode b_Model_action 61 = .ok (.goto 4, 3) := by decide +kernel
theorem d_Model_action_64 : decode b_Model_action 64 = .ok (.iconst 0, 1) := by decide +kernel
theorem d_Model_action_65 : decode b_Model_action 65 = .ok (.iconst 2, 1) := by decide +kernel
theorem d_Model_action_66 : decode b_Model_action 66 = .ok (.invokevirtual 110, 3) := by decide +kernel
theorem d_Model_action_69 : decode b_Model_action 69 = .ok (.ifCond .eq 5, 3) := by decide +kernel
theorem d_Model_action_72 : decode b_Model_action 72 = .ok (.iconst 0, 1) := by decide +kernel
theorem d_Model_action_73 : decode b_Model_action 73 = .ok (.ireturn, 1) := by decide +kernel
theorem d_Model_action_74 : decode b_Model_action 74 = .ok (.aload_n 0, 1) := by decide +kernel
theorem d_Model_action_75 : decode b_Model_action 75 = .ok (.getfield 13, 3) := by decide +kernel
theorem d_Model_action_78 : decode b_Model_action 78 = .ok (.bipush 10, 2) := by decide +kernel
theorem d_Model_action_80 : decode b_Model_action 80 = .ok (.iload_n 1, 1) := by decide +kernel
theorem d_Model_action_81 : decode b_Model_action 81 = .ok (.imul, 1) := by decide +kernel
theorem d_Model_action_82 : decode b_Model_action 82 = .ok (.aload_n 0, 1) := by decide +kernel
theorem d_Model_action_83 : decode b_Model_action 83 = .ok (.getfield 20, 3) := by decide +kernel
theorem d_Model_action_86 : decode b_Model_action 86 = .ok (.iload_n 1, 1) := by decide +kernel
theorem d_Model_action_87 : decode b_Model_action 87 = .ok (.iaload, 1) := by decide +kernel
theorem d_Model_action_88 : decode b_Model_action 88 = .ok (.iadd, 1) := by decide +kernel
theorem d_Model_action_89 : decode b_Model_action 89 = .ok (.iload_n 2, 1) := by decide +kernel
theorem d_Model_action_90 : decode b_Model_action 90 = .ok (.iastore, 1) := by decide +kernel
theorem d_Model_action_91 : decode b_Model_action 91 = .ok (.aload_n 0, 1) := by decide +kernel
theorem d_Model_action_92 : decode b_Model_action 92 = .ok (.getfield 17, 3) := by decide +kernel
theorem d_Model_action_95 : decode b_Model_action 95 = .ok (.bipush 10, 2) := by decide +kernel
theorem d_Model_action_97 : decode b_Model_action 97 = .ok (.iload_n 1, 1) := by decide +kernel
theorem d_Model_action_98 : decode b_Model_action 98 = .ok (.imul, 1) := by decide +kernel
theorem d_Model_action_99 : decode b_Model_action 99 = .ok (.aload_n 0, 1) := by decide +kernel
theorem d_Model_action_100 : decode b_Model_action 100 = .ok (.getfield 20, 3) := by decide +kernel
theorem d_Model_action_103 : decode b_Model_action 103 = .ok (.iload_n 1, 1) := by decide +kernel
theorem d_Model_action_104 : decode b_Model_action 104 = .ok (.iaload, 1) := by decide +kernel
theorem d_Model_action_105 : decode b_Model_action 105 = .ok (.iadd, 1) := by decide +kernel
theorem d_Model_action_106 : decode b_Model_action 106 = .ok (.iload_n 3, 1) := by decide +kernel
theorem d_Model_action_107 : decode b_Model_action 107 = .ok (.iastore, 1) := by decide +kernel
theorem d_Model_action_108 : decode b_Model_action 108 = .ok (.aload_n 0, 1) := by decide +kernel
theorem d_Model_action_109 : decode b_Model_action 109 = .ok (.getfield 20, 3) := by decide +kernel
theorem d_Model_action_112 : decode b_Model_action 112 = .ok (.iload_n 1, 1) := by decide +kernel
theorem d_Model_action_113 : decode b_Model_action 113 = .ok (.dup2, 1) := by decide +kernel
theorem d_Model_action_114 : decode b_Model_action 114 = .ok (.iaload, 1) := by decide +kernel
theorem d_Model_action_115 : decode b_Model_action 115 = .ok (.iconst 1, 1) := by decide +kernel
theorem d_Model_action_116 : decode b_Model_action 116 = .ok (.iadd, 1) := by decide +kernel
theorem d_Model_action_117 : decode b_Model_action 117 = .ok (.iastore, 1) := by decide +kernel
theorem d_Model_action_118 : decode b_Model_action 118 = .ok (.aload_n 0, 1) := by decide +kernel
theorem d_Model_action_119 : decode b_Model_action 119 = .ok (.getfield 20, 3) := by decide +kernel
theorem d_Model_action_122 : decode b_Model_action 122 = .ok (.iload_n 1, 1) := by decide +kernel
theorem d_Model_action_123 : decode b_Model_action 123 = .ok (.iaload, 1) := by decide +kernel
theorem d_Model_action_124 : decode b_Model_action 124 = .ok (.ireturn, 1) := by decide +kernel
theorem d_Model_test_0 : decode b_Model_test 0 = .ok (.aload_n 0, 1) := by decide +kernel
theorem d_Model_test_1 : decode b_Model_test 1 = .ok (.iconst 0, 1) := by decide +kernel
theorem d_Model_test_2 : decode b_Model_test 2 = .ok (.putfield 99, 3) := by decide +kernel
theorem d_Model_test_5 : decode b_Model_test 5 = .ok (.aload_n 0, 1) := by decide +kernel
theorem d_Model_test_6 : decode b_Model_test 6 = .ok (.iload_n 1, 1) := by decide +kernel
theorem d_Model_test_7 : decode b_Model_test 7 = .ok (.iconst 0, 1) := by decide +kernel
theorem d_Model_test_8 : decode b_Model_test 8 = .ok (.bipush 9, 2) := by decide +kernel
theorem d_Model_test_10 : decode b_Model_test 10 = .ok (.invokestatic 102, 3) := by decide +kernel
theorem d_Model_test_13 : decode b_Model_test 13 = .ok (.ifCond .eq 34, 3) := by decide +kernel
theorem d_Model_test_16 : decode b_Model_test 16 = .ok (.iload_n 2, 1) := by decide +kernel
theorem d_Model_test_17 : decode b_Model_test 17 = .ok (.iconst 0, 1) := by decide +kernel
theorem d_Model_test_18 : decode b_Model_test 18 = .ok (.bipush 50, 2) := by decide +kernel
theorem d_Model_test_20 : decode b_Model_test 20 = .ok (.invokestatic 102, 3) := by decide +kernel
theorem d_Model_test_23 : decode b_Model_test 23 = .ok (.ifCond .eq 24, 3) := by decide +kernel
theorem d_Model_test_26 : decode b_Model_test 26 = .ok (.iload_n 3, 1) := by decide +kernel
theorem d_Model_test_27 : decode b_Model_test 27 = .ok (.iconst 0, 1) := by decide +kernel
theorem d_Model_test_28 : decode b_Model_test 28 = .ok (.bipush 15, 2) := by decide +kernel
theorem d_Model_test_30 : decode b_Model_test 30 = .ok (.invokestatic 102, 3) := by decide +kernel
theorem d_Model_test_33 : decode b_Model_test 33 = .ok (.ifCond .eq 14, 3) := by decide +kernel
theorem d_Model_test_36 : decode b_Model_test 36 = .ok (.iload 4, 2) := by decide +kernel
theorem d_Model_test_38 : decode b_Model_test 38 = .ok (.iconst 0, 1) := by decide +kernel
theorem d_Model_test_39 : decode b_Model_test 39 = .ok (.bipush 15, 2) := by decide +kernel
theorem d_Model_test_41 : decode b_Model_test 41 = .ok (.invokestatic 102, 3) := by decide +kernel
theorem d_Model_test_44 : decode b_Model_test 44 = .ok (.ifCond .ne 7, 3) := by decide +kernel
theorem d_Model_test_47 : decode b_Model_test 47 = .ok (.iconst 1, 1) := by decide +kernel
theorem d_Model_test_48 : decode b_Model_test 48 = .ok (.goto 4, 3) := by decide +kernel
theorem d_Model_test_51 : decode b_Model_test 51 = .ok (.iconst 0, 1) := by decide +kernel
theorem d_Model_test_52 : decode b_Model_test 52 = .ok (.iconst 1, 1) := by decide +kernel
theorem d_Model_test_53 : decode b_Model_test 53 = .ok (.invokevirtual 110, 3) := by decide +kernel
theorem d_Model_test_56 : decode b_Model_test 56 = .ok (.ifCond .ne 25, 3) := by decide +kernel
theorem d_Model_test_59 : decode b_Model_test 59 = .ok (.aload_n 0, 1) := by decide +kernel
theorem d_Model_test_60 : decode b_Model_test 60 = .ok (.aload_n 0, 1) := by decide +kernel
theorem d_Model_test_61 : decode b_Model_test 61 = .ok (.getfield 114, 3) := by decide +kernel
theorem d_Model_test_64 : decode b_Model_test 64 = .ok (.bipush 12, 2) := by decide +kernel
theorem d_Model_test_66 : decode b_Model_test 66 = .ok (.if_icmp .ne 7, 3) := by decide +kernel
theorem d_Model_test_69 : decode b_Model_test 69 = .ok (.iconst 1, 1) := by decide +kernel
theorem d_Model_test_70 : decode b_Model_test 70 = .ok (.goto 4, 3) := by decide +kernel
theorem d_Model_test_73 : decode b_Model_test 73 = .ok (.iconst 0, 1) := by decide +kernel
theorem d_Model_test_74 : decode b_Model_test 74 = .ok (.iconst 2, 1) := by decide +kernel
theorem d_Model_test_75 : decode b_Model_test 75 = .ok (.invokevirtual 110, 3) := by decide +kernel
theorem d_Model_test_78 : decode b_Model_test 78 = .ok (.ifCond .eq 5, 3) := by decide +kernel
theorem d_Model_test_81 : decode b_Model_test 81 = .ok (.iconst 0, 1) := by decide +kernel
theorem d_Model_test_82 : decode b_Model_test 82 = .ok (.ireturn, 1) := by decide +kernel
theorem d_Model_test_83 : decode b_Model_test 83 = .ok (.aload_n 0, 1) := by decide +kernel
theorem d_Model_test_84 : decode b_Model_test 84 = .ok (.getfield 114, 3) := by decide +kernel
theorem d_Model_test_87 : decode b_Model_test 87 = .ok (.istore 5, 2) := by decide +kernel
theorem d_Model_test_89 : decode b_Model_test 89 = .ok (.aload_n 0, 1) := by decide +kernel
theorem d_Model_test_90 : decode b_Model_test 90 = .ok (.dup, 1) := by decide +kernel
theorem d_Model_test_91 : decode b_Model_test 91 = .ok (.getfield 114, 3) := by decide +kernel
theorem d_Model_test_94 : decode b_Model_test 94 = .ok (.iconst 1, 1) := by decide +kernel
theorem d_Model_test_95 : decode b_Model_test 95 = .ok (.iadd, 1) := by decide +kernel
theorem d_Model_test_96 : decode b_Model_test 96 = .ok (.putfield 114, 3) := by decide +kernel
theorem d_Model_test_99 : decode b_Model_test 99 = .ok (.aload_n 0, 1) := by decide +kernel
theorem d_Model_test_100 : decode b_Model_test 100 = .ok (.getfield 26, 3) := by decide +kernel
theorem d_Model_test_103 : decode b_Model_test 103 = .ok (.iload 5, 2) := by decide +kernel
theorem d_Model_test_105 : decode b_Model_test 105 = .ok (.iload_n 1, 1) := by decide +kernel
theorem d_Model_test_106 : decode b_Model_test 106 = .ok (.iastore, 1) := by decide +kernel
theorem d_Model_test_107 : decode b_Model_test 107 = .ok (.aload_n 0, 1) := by decide +kernel
theorem d_Model_test_108 : decode b_Model_test 108 = .ok (.getfield 29, 3) := by decide +kernel
theorem d_Model_test_111 : decode b_Model_test 111 = .ok (.iload 5, 2) := by decide +kernel
theorem d_Model_test_113 : decode b_Model_test 113 = .ok (.iload_n 2, 1) := by decide +kernel
theorem d_Model_test_114 : decode b_Model_test 114 = .ok (.iastore, 1) := by decide +kernel
theorem d_Model_test_115 : decode b_Model_test 115 = .ok (.aload_n 0, 1) := by decide +kernel
theorem d_Model_test_116 : decode b_Model_test 116 = .ok (.getfield 32, 3) := by decide +kernel
theorem d_Model_test_119 : decode b_Model_test 119 = .ok (.iload 5, 2) := by decide +kernel
theorem d_Model_test_121 : decode b_Model_test 121 = .ok (.iload_n 3, 1) := by decide +kernel
theorem d_Model_test_122 : decode b_Model_test 122 = .ok (.iload 4, 2) := by decide +kernel
theorem d_Model_test_124 : decode b_Model_test 124 = .ok (.iconst (-1), 1) := by decide +kernel
theorem d_Model_test_125 : decode b_Model_test 125 = .ok (.ixor, 1) := by decide +kernel
theorem d_Model_test_126 : decode b_Model_test 126 = .ok (.iand, 1) := by decide +kernel
theorem d_Model_test_127 : decode b_Model_test 127 = .ok (.iastore, 1) := by decide +kernel
theorem d_Model_test_128 : decode b_Model_test 128 = .ok (.aload_n 0, 1) := by decide +kernel
theorem d_Model_test_129 : decode b_Model_test 129 = .ok (.getfield 35, 3) := by decide +kernel
theorem d_Model_test_132 : decode b_Model_test 132 = .ok (.iload 5, 2) := by decide +kernel
theorem d_Model_test_134 : decode b_Model_test 134 = .ok (.iload 4, 2) := by decide +kernel
theorem d_Model_test_136 : decode b_Model_test 136 = .ok (.iastore, 1) := by decide +kernel
theorem d_Model_test_137 : decode b_Model_test 137 = .ok (.aload_n 0, 1) := by decide +kernel
theorem d_Model_test_138 : decode b_Model_test 138 = .ok (.getfield 38, 3) := by decide +kernel
theorem d_Model_test_141 : decode b_Model_test 141 = .ok (.iload 5, 2) := by decide +kernel
theorem d_Model_test_143 : decode b_Model_test 143 = .ok (.iconst 0, 1) := by decide +kernel
theorem d_Model_test_144 : decode b_Model_test 144 = .ok (.iastore, 1) := by decide +kernel
theorem d_Model_test_145 : decode b_Model_test 145 = .ok (.aload_n 0, 1) := by decide +kernel
theorem d_Model_test_146 : decode b_Model_test 146 = .ok (.getfield 41, 3) := by decide +kernel
theorem d_Model_test_149 : decode b_Model_test 149 = .ok (.iload 5, 2) := by decide +kernel
theorem d_Model_test_151 : decode b_Model_test 151 = .ok (.iconst (-1), 1) := by decide +kernel
theorem d_Model_test_152 : decode b_Model_test 152 = .ok (.iastore, 1) := by decide +kernel
theorem d_Model_test_153 : decode b_Model_test 153 = .ok (.aload_n 0, 1) := by decide +kernel
theorem d_Model_test_154 : decode b_Model_test 154 = .ok (.getfield 44, 3) := by decide +kernel
theorem d_Model_test_157 : decode b_Model_test 157 = .ok (.iload 5, 2) := by decide +kernel
theorem d_Model_test_159 : decode b_Model_test 159 = .ok (.iconst (-1), 1) := by decide +kernel
theorem d_Model_test_160 : decode b_Model_test 160 = .ok (.iastore, 1) := by decide +kernel
theorem d_Model_test_161 : decode b_Model_test 161 = .ok (.aload_n 0, 1) := by decide +kernel
theorem d_Model_test_162 : decode b_Model_test 162 = .ok (.getfield 47, 3) := by decide +kernel
theorem d_Model_test_165 : decode b_Model_test 165 = .ok (.iload 5, 2) := by decide +kernel
theorem d_Model_test_167 : decode b_Model_test 167 = .ok (.iconst (-1), 1) := by decide +kernel
theorem d_Model_test_168 : decode b_Model_test 168 = .ok (.iastore, 1) := by decide +kernel
theorem d_Model_test_169 : decode b_Model_test 169 = .ok (.aload_n 0, 1) := by decide +kernel
theorem d_Model_test_170 : decode b_Model_test 170 = .ok (.getfield 50, 3) := by decide +kernel
theorem d_Model_test_173 : decode b_Model_test 173 = .ok (.iload 5, 2) := by decide +kernel
theorem d_Model_test_175 : decode b_Model_test 175 = .ok (.iconst (-1), 1) := by decide +kernel
theorem d_Model_test_176 : decode b_Model_test 176 = .ok (.iastore, 1) := by decide +kernel
theorem d_Model_test_177 : decode b_Model_test 177 = .ok (.aload_n 0, 1) := by decide +kernel
theorem d_Model_test_178 : decode b_Model_test 178 = .ok (.getfield 62, 3) := by decide +kernel
theorem d_Model_test_181 : decode b_Model_test 181 = .ok (.iload 5, 2) := by decide +kernel
theorem d_Model_test_183 : decode b_Model_test 183 = .ok (.iconst 0, 1) := by decide +kernel
theorem d_Model_test_184 : decode b_Model_test 184 = .ok (.bastore, 1) := by decide +kernel
theorem d_Model_test_185 : decode b_Model_test 185 = .ok (.aload_n 0, 1) := by decide +kernel
theorem d_Model_test_186 : decode b_Model_test 186 = .ok (.getfield 59, 3) := by decide +kernel
theorem d_Model_test_189 : decode b_Model_test 189 = .ok (.iload 5, 2) := by decide +kernel
theorem d_Model_test_191 : decode b_Model_test 191 = .ok (.iconst 0, 1) := by decide +kernel
theorem d_Model_test_192 : decode b_Model_test 192 = .ok (.iastore, 1) := by decide +kernel
theorem d_Model_test_193 : decode b_Model_test 193 = .ok (.iload 5, 2) := by decide +kernel
theorem d_Model_test_195 : decode b_Model_test 195 = .ok (.ireturn, 1) := by decide +kernel
theorem d_Model_workers_0 : decode b_Model_workers 0 = .ok (.aload_n 0, 1) := by decide +kernel
theorem d_Model_workers_1 : decode b_Model_workers 1 = .ok (.iconst 0, 1) := by decide +kernel
theorem d_Model_workers_2 : decode b_Model_workers 2 = .ok (.putfield 99, 3) := by decide +kernel
theorem d_Model_workers_5 : decode b_Model_workers 5 = .ok (.aload_n 0, 1) := by decide +kernel
theorem d_Model_workers_6 : decode b_Model_workers 6 = .ok (.iload_n 1, 1) := by decide +kernel
theorem d_Model_workers_7 : decode b_Model_workers 7 = .ok (.iconst 1, 1) := by decide +kernel
theorem d_Model_workers_8 : decode b_Model_workers 8 = .ok (.iconst 4, 1) := by decide +kernel
theorem d_Model_workers_9 : decode b_Model_workers 9 = .ok (.invokestatic 102, 3) := by decide +kernel
theorem d_Model_workers_12 : decode b_Model_workers 12 = .ok (.ifCond .ne 7, 3) := by decide +kernel
theorem d_Model_workers_15 : decode b_Model_workers 15 = .ok (.iconst 1, 1) := by decide +kernel
theorem d_Model_workers_16 : decode b_Model_workers 16 = .ok (.goto 4, 3) := by decide +kernel
theorem d_Model_workers_19 : decode b_Model_workers 19 = .ok (.iconst 0, 1) := by decide +kernel
theorem d_Model_workers_20 : decode b_Model_workers 20 = .ok (.iconst 1, 1) := by decide +kernel
theorem d_Model_workers_21 : decode b_Model_workers 21 = .ok (.invokevirtual 110, 3) := by decide +kernel
theorem d_Model_workers_24 : decode b_Model_workers 24 = .ok (.ifCond .eq 5, 3) := by decide +kernel
theorem d_Model_workers_27 : decode b_Model_workers 27 = .ok (.iconst 0, 1) := by decide +kernel
theorem d_Model_workers_28 : decode b_Model_workers 28 = .ok (.ireturn, 1) := by decide +kernel
theorem d_Model_workers_29 : decode b_Model_workers 29 = .ok (.aload_n 0, 1) := by decide +kernel
theorem d_Model_workers_30 : decode b_Model_workers 30 = .ok (.getfield 7, 3) := by decide +kernel
theorem d_Model_workers_33 : decode b_Model_workers 33 = .ok (.istore_n 2, 1) := by decide +kernel
theorem d_Model_workers_34 : decode b_Model_workers 34 = .ok (.aload_n 0, 1) := by decide +kernel
theorem d_Model_workers_35 : decode b_Model_workers 35 = .ok (.iload_n 1, 1) := by decide +kernel
theorem d_Model_workers_36 : decode b_Model_workers 36 = .ok (.putfield 7, 3) := by decide +kernel
theorem d_Model_workers_39 : decode b_Model_workers 39 = .ok (.iload_n 2, 1) := by decide +kernel
theorem d_Model_workers_40 : decode b_Model_workers 40 = .ok (.ireturn, 1) := by decide +kernel
theorem d_Model_judged_0 : decode b_Model_judged 0 = .ok (.aload_n 0, 1) := by decide +kernel
theorem d_Model_judged_1 : decode b_Model_judged 1 = .ok (.getfield 38, 3) := by decide +kernel
theorem d_Model_judged_4 : decode b_Model_judged 4 = .ok (.iload_n 1, 1) := by decide +kernel
theorem d_Model_judged_5 : decode b_Model_judged 5 = .ok (.iload_n 2, 1) := by decide +kernel
theorem d_Model_judged_6 : decode b_Model_judged 6 = .ok (.iastore, 1) := by decide +kernel
theorem d_Model_judged_7 : decode b_Model_judged 7 = .ok (.aload_n 0, 1) := by decide +kernel
theorem d_Model_judged_8 : decode b_Model_judged 8 = .ok (.getfield 41, 3) := by decide +kernel
theorem d_Model_judged_11 : decode b_Model_judged 11 = .ok (.iload_n 1, 1) := by decide +kernel
theorem d_Model_judged_12 : decode b_Model_judged 12 = .ok (.iload_n 3, 1) := by decide +kernel
theorem d_Model_judged_13 : decode b_Model_judged 13 = .ok (.iastore, 1) := by decide +kernel
theorem d_Model_judged_14 : decode b_Model_judged 14 = .ok (.aload_n 0, 1) := by decide +kernel
theorem d_Model_judged_15 : decode b_Model_judged 15 = .ok (.getfield 47, 3) := by decide +kernel
theorem d_Model_judged_18 : decode b_Model_judged 18 = .ok (.iload_n 1, 1) := by decide +kernel
theorem d_Model_judged_19 : decode b_Model_judged 19 = .ok (.aload_n 0, 1) := by decide +kernel
theorem d_Model_judged_20 : decode b_Model_judged 20 = .ok (.getfield 117, 3) := by decide +kernel
theorem d_Model_judged_23 : decode b_Model_judged 23 = .ok (.iastore, 1) := by decide +kernel
theorem d_Model_judged_24 : decode b_Model_judged 24 = .ok (.return_, 1) := by decide +kernel
theorem d_Model_warns_0 : decode b_Model_warns 0 = .ok (.aload_n 0, 1) := by decide +kernel
theorem d_Model_warns_1 : decode b_Model_warns 1 = .ok (.getfield 120, 3) := by decide +kernel
theorem d_Model_warns_4 : decode b_Model_warns 4 = .ok (.bipush 8, 2) := by decide +kernel
theorem d_Model_warns_6 : decode b_Model_warns 6 = .ok (.if_icmp .ge 19, 3) := by decide +kernel
theorem d_Model_warns_9 : decode b_Model_warns 9 = .ok (.aload_n 0, 1) := by decide +kernel
theorem d_Model_warns_10 : decode b_Model_warns 10 = .ok (.getfield 96, 3) := by decide +kernel
theorem d_Model_warns_13 : decode b_Model_warns 13 = .ok (.aload_n 0, 1) := by decide +kernel
theorem d_Model_warns_14 : decode b_Model_warns 14 = .ok (.getfield 120, 3) := by decide +kernel
theorem d_Model_warns_17 : decode b_Model_warns 17 = .ok (.sipush 1000, 3) := by decide +kernel
theorem d_Model_warns_20 : decode b_Model_warns 20 = .ok (.iload_n 1, 1) := by decide +kernel
theorem d_Model_warns_21 : decode b_Model_warns 21 = .ok (.imul, 1) := by decide +kernel
theorem d_Model_warns_22 : decode b_Model_warns 22 = .ok (.iload_n 2, 1) := by decide +kernel
theorem d_Model_warns_23 : decode b_Model_warns 23 = .ok (.iadd, 1) := by decide +kernel
theorem d_Model_warns_24 : decode b_Model_warns 24 = .ok (.iastore, 1) := by decide +kernel
theorem d_Model_warns_25 : decode b_Model_warns 25 = .ok (.aload_n 0, 1) := by decide +kernel
theorem d_Model_warns_26 : decode b_Model_warns 26 = .ok (.dup, 1) := by decide +kernel
theorem d_Model_warns_27 : decode b_Model_warns 27 = .ok (.getfield 120, 3) := by decide +kernel
theorem d_Model_warns_30 : decode b_Model_warns 30 = .ok (.iconst 1, 1) := by decide +kernel
theorem d_Model_warns_31 : decode b_Model_warns 31 = .ok (.iadd, 1) := by decide +kernel
theorem d_Model_warns_32 : decode b_Model_warns 32 = .ok (.putfield 120, 3) := by decide +kernel
theorem d_Model_warns_35 : decode b_Model_warns 35 = .ok (.return_, 1) := by decide +kernel
theorem d_Model_ends_0 : decode b_Model_ends 0 = .ok (.aload_n 0, 1) := by decide +kernel
theorem d_Model_ends_1 : decode b_Model_ends 1 = .ok (.getfield 69, 3) := by decide +kernel
theorem d_Model_ends_4 : decode b_Model_ends 4 = .ok (.iload_n 1, 1) := by decide +kernel
theorem d_Model_ends_5 : decode b_Model_ends 5 = .ok (.iaload, 1) := by decide +kernel
theorem d_Model_ends_6 : decode b_Model_ends 6 = .ok (.istore_n 3, 1) := by decide +kernel
theorem d_Model_ends_7 : decode b_Model_ends 7 = .ok (.aload_n 0, 1) := by decide +kernel
theorem d_Model_ends_8 : decode b_Model_ends 8 = .ok (.getfield 81, 3) := by decide +kernel
theorem d_Model_ends_11 : decode b_Model_ends 11 = .ok (.iload_n 1, 1) := by decide +kernel
theorem d_Model_ends_12 : decode b_Model_ends 12 = .ok (.iconst 5, 1) := by decide +kernel
theorem d_Model_ends_13 : decode b_Model_ends 13 = .ok (.iastore, 1) := by decide +kernel
theorem d_Model_ends_14 : decode b_Model_ends 14 = .ok (.aload_n 0, 1) := by decide +kernel
theorem d_Model_ends_15 : decode b_Model_ends 15 = .ok (.getfield 38, 3) := by decide +kernel
theorem d_Model_ends_18 : decode b_Model_ends 18 = .ok (.iload_n 3, 1) := by decide +kernel
theorem d_Model_ends_19 : decode b_Model_ends 19 = .ok (.iaload, 1) := by decide +kernel
theorem d_Model_ends_20 : decode b_Model_ends 20 = .ok (.ifCond .eq 23, 3) := by decide +kernel
theorem d_Model_ends_23 : decode b_Model_ends 23 = .ok (.iload_n 2, 1) := by decide +kernel
theorem d_Model_ends_24 : decode b_Model_ends 24 = .ok (.ifCond .lt 18, 3) := by decide +kernel
theorem d_Model_ends_27 : decode b_Model_ends 27 = .ok (.aload_n 0, 1) := by decide +kernel
theorem d_Model_ends_28 : decode b_Model_ends 28 = .ok (.getfield 90, 3) := by decide +kernel
theorem d_Model_ends_31 : decode b_Model_ends 31 = .ok (.iload_n 1, 1) := by decide +kernel
theorem d_Model_ends_32 : decode b_Model_ends 32 = .ok (.baload, 1) := by decide +kernel
theorem d_Model_ends_33 : decode b_Model_ends 33 = .ok (.ifCond .ne 9, 3) := by decide +kernel
theorem d_Model_ends_36 : decode b_Model_ends 36 = .ok (.aload_n 0, 1) := by decide +kernel
theorem d_Model_ends_37 : decode b_Model_ends 37 = .ok (.iload_n 3, 1) := by decide +kernel
theorem d_Model_ends_38 : decode b_Model_ends 38 = .ok (.iload_n 2, 1) := by decide +kernel
theorem d_Model_ends_39 : decode b_Model_ends 39 = .ok (.invokevirtual 123, 3) := by decide +kernel
theorem d_Model_ends_42 : decode b_Model_ends 42 = .ok (.return_, 1) := by decide +kernel
theorem d_Model_ends_43 : decode b_Model_ends 43 = .ok (.aload_n 0, 1) := by decide +kernel
theorem d_Model_ends_44 : decode b_Model_ends 44 = .ok (.getfield 53, 3) := by decide +kernel
theorem d_Model_ends_47 : decode b_Model_ends 47 = .ok (.iload_n 3, 1) := by decide +kernel
theorem d_Model_ends_48 : decode b_Model_ends 48 = .ok (.iaload, 1) := by decide +kernel
theorem d_Model_ends_49 : decode b_Model_ends 49 = .ok (.iload_n 1, 1) := by decide +kernel
theorem d_Model_ends_50 : decode b_Model_ends 50 = .ok (.if_icmp .ne 39, 3) := by decide +kernel
theorem d_Model_ends_53 : decode b_Model_ends 53 = .ok (.iload_n 2, 1) := by decide +kernel
theorem d_Model_ends_54 : decode b_Model_ends 54 = .ok (.ifCond .lt 7, 3) := by decide +kernel
theorem d_Model_ends_57 : decode b_Model_ends 57 = .ok (.iload_n 2, 1) := by decide +kernel
theorem d_Model_ends_58 : decode b_Model_ends 58 = .ok (.goto 9, 3) := by decide +kernel
theorem d_Model_ends_61 : decode b_Model_ends 61 = .ok (.aload_n 0, 1) := by decide +kernel
theorem d_Model_ends_62 : decode b_Model_ends 62 = .ok (.getfield 56, 3) := by decide +kernel
theorem d_Model_ends_65 : decode b_Model_ends 65 = .ok (.iload_n 3, 1) := by decide +kernel
theorem d_Model_ends_66 : decode b_Model_ends 66 = .ok (.iaload, 1) := by decide +kernel
theorem d_Model_ends_67 : decode b_Model_ends 67 = .ok (.istore 4, 2) := by decide +kernel
theorem d_Model_ends_69 : decode b_Model_ends 69 = .ok (.aload_n 0, 1) := by decide +kernel
theorem d_Model_ends_70 : decode b_Model_ends 70 = .ok (.iload_n 3, 1) := by decide +kernel
theorem d_Model_ends_71 : decode b_Model_ends 71 = .ok (.iload 4, 2) := by decide +kernel
theorem d_Model_ends_73 : decode b_Model_ends 73 = .ok (.ifCond .lt 7, 3) := by decide +kernel
theorem d_Model_ends_76 : decode b_Model_ends 76 = .ok (.iconst 2, 1) := by decide +kernel
theorem d_Model_ends_77 : decode b_Model_ends 77 = .ok (.goto 4, 3) := by decide +kernel
theorem d_Model_ends_80 : decode b_Model_ends 80 = .ok (.iconst 1, 1) := by decide +kernel
theorem d_Model_ends_81 : decode b_Model_ends 81 = .ok (.iload 4, 2) := by decide +kernel
theorem d_Model_ends_83 : decode b_Model_ends 83 = .ok (.invokevirtual 127, 3) := by decide +kernel
theorem d_Model_ends_86 : decode b_Model_ends 86 = .ok (.goto 32, 3) := by decide +kernel
theorem d_Model_ends_89 : decode b_Model_ends 89 = .ok (.iload_n 2, 1) := by decide +kernel
theorem d_Model_ends_90 : decode b_Model_ends 90 = .ok (.ifCond .lt 28, 3) := by decide +kernel
theorem d_Model_ends_93 : decode b_Model_ends 93 = .ok (.aload_n 0, 1) := by decide +kernel
theorem d_Model_ends_94 : decode b_Model_ends 94 = .ok (.getfield 90, 3) := by decide +kernel
theorem d_Model_ends_97 : decode b_Model_ends 97 = .ok (.iload_n 1, 1) := by decide +kernel
theorem d_Model_ends_98 : decode b_Model_ends 98 = .ok (.baload, 1) := by decide +kernel
theorem d_Model_ends_99 : decode b_Model_ends 99 = .ok (.ifCond .ne 19, 3) := by decide +kernel
theorem d_Model_ends_102 : decode b_Model_ends 102 = .ok (.aload_n 0, 1) := by decide +kernel
theorem d_Model_ends_103 : decode b_Model_ends 103 = .ok (.getfield 56, 3) := by decide +kernel
theorem d_Model_ends_106 : decode b_Model_ends 106 = .ok (.iload_n 3, 1) := by decide +kernel
theorem d_Model_ends_107 : decode b_Model_ends 107 = .ok (.iaload, 1) := by decide +kernel
theorem d_Model_ends_108 : decode b_Model_ends 108 = .ok (.ifCond .ge 10, 3) := by decide +kernel
theorem d_Model_ends_111 : decode b_Model_ends 111 = .ok (.aload_n 0, 1) := by decide +kernel
theorem d_Model_ends_112 : decode b_Model_ends 112 = .ok (.getfield 56, 3) := by decide +kernel
theorem d_Model_ends_115 : decode b_Model_ends 115 = .ok (.iload_n 3, 1) := by decide +kernel
theorem d_Model_ends_116 : decode b_Model_ends 116 = .ok (.iload_n 2, 1) := by decide +kernel
theorem d_Model_ends_117 : decode b_Model_ends 117 = .ok (.iastore, 1) := by decide +kernel
theorem d_Model_ends_118 : decode b_Model_ends 118 = .ok (.return_, 1) := by decide +kernel
theorem d_Model_starts_0 : decode b_Model_starts 0 = .ok (.aload_n 0, 1) := by decide +kernel
theorem d_Model_starts_1 : decode b_Model_starts 1 = .ok (.getfield 131, 3) := by decide +kernel
theorem d_Model_starts_4 : decode b_Model_starts 4 = .ok (.istore 4, 2) := by decide +kernel
theorem d_Model_starts_6 : decode b_Model_starts 6 = .ok (.aload_n 0, 1) := by decide +kernel
theorem d_Model_starts_7 : decode b_Model_starts 7 = .ok (.dup, 1) := by decide +kernel
theorem d_Model_starts_8 : decode b_Model_starts 8 = .ok (.getfield 131, 3) := by decide +kernel
theorem d_Model_starts_11 : decode b_Model_starts 11 = .ok (.iconst 1, 1) := by decide +kernel
theorem d_Model_starts_12 : decode b_Model_starts 12 = .ok (.iadd, 1) := by decide +kernel
theorem d_Model_starts_13 : decode b_Model_starts 13 = .ok (.putfield 131, 3) := by decide +kernel
theorem d_Model_starts_16 : decode b_Model_starts 16 = .ok (.aload_n 0, 1) := by decide +kernel
theorem d_Model_starts_17 : decode b_Model_starts 17 = .ok (.getfield 69, 3) := by decide +kernel
theorem d_Model_starts_20 : decode b_Model_starts 20 = .ok (.iload 4, 2) := by decide +kernel
theorem d_Model_starts_22 : decode b_Model_starts 22 = .ok (.iload_n 1, 1) := by decide +kernel
theorem d_Model_starts_23 : decode b_Model_starts 23 = .ok (.iastore, 1) := by decide +kernel
theorem d_Model_starts_24 : decode b_Model_starts 24 = .ok (.aload_n 0, 1) := by decide +kernel
theorem d_Model_starts_25 : decode b_Model_starts 25 = .ok (.getfield 72, 3) := by decide +kernel
theorem d_Model_starts_28 : decode b_Model_starts 28 = .ok (.iload 4, 2) := by decide +kernel
theorem d_Model_starts_30 : decode b_Model_starts 30 = .ok (.iload_n 3, 1) := by decide +kernel
theorem d_Model_starts_31 : decode b_Model_starts 31 = .ok (.iastore, 1) := by decide +kernel
theorem d_Model_starts_32 : decode b_Model_starts 32 = .ok (.aload_n 0, 1) := by decide +kernel
theorem d_Model_starts_33 : decode b_Model_starts 33 = .ok (.getfield 75, 3) := by decide +kernel
theorem d_Model_starts_36 : decode b_Model_starts 36 = .ok (.iload 4, 2) := by decide +kernel
theorem d_Model_starts_38 : decode b_Model_starts 38 = .ok (.iload_n 2, 1) := by decide +kernel
theorem d_Model_starts_39 : decode b_Model_starts 39 = .ok (.iastore, 1) := by decide +kernel
theorem d_Model_starts_40 : decode b_Model_starts 40 = .ok (.aload_n 0, 1) := by decide +kernel
theorem d_Model_starts_41 : decode b_Model_starts 41 = .ok (.getfield 78, 3) := by decide +kernel
theorem d_Model_starts_44 : decode b_Model_starts 44 = .ok (.iload 4, 2) := by decide +kernel
theorem d_Model_starts_46 : decode b_Model_starts 46 = .ok (.iconst 0, 1) := by decide +kernel
theorem d_Model_starts_47 : decode b_Model_starts 47 = .ok (.iastore, 1) := by decide +kernel
theorem d_Model_starts_48 : decode b_Model_starts 48 = .ok (.aload_n 0, 1) := by decide +kernel
theorem d_Model_starts_49 : decode b_Model_starts 49 = .ok (.getfield 81, 3) := by decide +kernel
theorem d_Model_starts_52 : decode b_Model_starts 52 = .ok (.iload 4, 2) := by decide +kernel
theorem d_Model_starts_54 : decode b_Model_starts 54 = .ok (.iconst 0, 1) := by decide +kernel
theorem d_Model_starts_55 : decode b_Model_starts 55 = .ok (.iastore, 1) := by decide +kernel
theorem d_Model_starts_56 : decode b_Model_starts 56 = .ok (.aload_n 0, 1) := by decide +kernel
theorem d_Model_starts_57 : decode b_Model_starts 57 = .ok (.getfield 87, 3) := by decide +kernel
theorem d_Model_starts_60 : decode b_Model_starts 60 = .ok (.iload 4, 2) := by decide +kernel
theorem d_Model_starts_62 : decode b_Model_starts 62 = .ok (.iconst 0, 1) := by decide +kernel
theorem d_Model_starts_63 : decode b_Model_starts 63 = .ok (.bastore, 1) := by decide +kernel
theorem d_Model_starts_64 : decode b_Model_starts 64 = .ok (.aload_n 0, 1) := by decide +kernel
theorem d_Model_starts_65 : decode b_Model_starts 65 = .ok (.getfield 90, 3) := by decide +kernel
theorem d_Model_starts_68 : decode b_Model_starts 68 = .ok (.iload 4, 2) := by decide +kernel
theorem d_Model_starts_70 : decode b_Model_starts 70 = .ok (.iconst 0, 1) := by decide +kernel
theorem d_Model_starts_71 : decode b_Model_starts 71 = .ok (.bastore, 1) := by decide +kernel
theorem d_Model_starts_72 : decode b_Model_starts 72 = .ok (.aload_n 0, 1) := by decide +kernel
theorem d_Model_starts_73 : decode b_Model_starts 73 = .ok (.getfield 59, 3) := by decide +kernel
theorem d_Model_starts_76 : decode b_Model_starts 76 = .ok (.iload_n 1, 1) := by decide +kernel
theorem d_Model_starts_77 : decode b_Model_starts 77 = .ok (.dup2, 1) := by decide +kernel
theorem d_Model_starts_78 : decode b_Model_starts 78 = .ok (.iaload, 1) := by decide +kernel
theorem d_Model_starts_79 : decode b_Model_starts 79 = .ok (.iconst 1, 1) := by decide +kernel
theorem d_Model_starts_80 : decode b_Model_starts 80 = .ok (.iadd, 1) := by decide +kernel
theorem d_Model_starts_81 : decode b_Model_starts 81 = .ok (.iastore, 1) := by decide +kernel
theorem d_Model_starts_82 : decode b_Model_starts 82 = .ok (.iload 4, 2) := by decide +kernel
theorem d_Model_starts_84 : decode b_Model_starts 84 = .ok (.ireturn, 1) := by decide +kernel
theorem d_Model_guards_0 : decode b_Model_guards 0 = .ok (.iconst 0, 1) := by decide +kernel
theorem d_Model_guards_1 : decode b_Model_guards 1 = .ok (.istore_n 1, 1) := by decide +kernel
theorem d_Model_guards_2 : decode b_Model_guards 2 = .ok (.iload_n 1, 1) := by decide +kernel
theorem d_Model_guards_3 : decode b_Model_guards 3 = .ok (.bipush 10, 2) := by decide +kernel
theorem d_Model_guards_5 : decode b_Model_guards 5 = .ok (.if_icmp .ge 146, 3) := by decide +kernel
theorem d_Model_guards_8 : decode b_Model_guards 8 = .ok (.iconst 0, 1) := by decide +kernel
theorem d_Model_guards_9 : decode b_Model_guards 9 = .ok (.istore_n 2, 1) := by decide +kernel
theorem d_Model_guards_10 : decode b_Model_guards 10 = .ok (.iload_n 2, 1) := by decide +kernel
theorem d_Model_guards_11 : decode b_Model_guards 11 = .ok (.aload_n 0, 1) := by decide +kernel
theorem d_Model_guards_12 : decode b_Model_guards 12 = .ok (.getfield 20, 3) := by decide +kernel
theorem d_Model_guards_15 : decode b_Model_guards 15 = .ok (.iload_n 1, 1) := by decide +kernel
theorem d_Model_guards_16 : decode b_Model_guards 16 = .ok (.iaload, 1) := by decide +kernel
theorem d_Model_guards_17 : decode b_Model_guards 17 = .ok (.if_icmp .ge 128, 3) := by decide +kernel
theorem d_Model_guards_20 : decode b_Model_guards 20 = .ok (.iload_n 2, 1) := by decide +kernel
theorem d_Model_guards_21 : decode b_Model_guards 21 = .ok (.aload_n 0, 1) := by decide +kernel
theorem d_Model_guards_22 : decode b_Model_guards 22 = .ok (.getfield 17, 3) := by decide +kernel
theorem d_Model_guards_25 : decode b_Model_guards 25 = .ok (.bipush 10, 2) := by decide +kernel
theorem d_Model_guards_27 : decode b_Model_guards 27 = .ok (.iload_n 1, 1) := by decide +kernel
theorem d_Model_guards_28 : decode b_Model_guards 28 = .ok (.imul, 1) := by decide +kernel
theorem d_Model_guards_29 : decode b_Model_guards 29 = .ok (.iload_n 2, 1) := by decide +kernel
theorem d_Model_guards_30 : decode b_Model_guards 30 = .ok (.iadd, 1) := by decide +kernel
theorem d_Model_guards_31 : decode b_Model_guards 31 = .ok (.iaload, 1) := by decide +kernel
theorem d_Model_guards_32 : decode b_Model_guards 32 = .ok (.iadd, 1) := by decide +kernel
theorem d_Model_guards_33 : decode b_Model_guards 33 = .ok (.aload_n 0, 1) := by decide +kernel
theorem d_Model_guards_34 : decode b_Model_guards 34 = .ok (.getfield 20, 3) := by decide +kernel
theorem d_Model_guards_37 : decode b_Model_guards 37 = .ok (.iload_n 1, 1) := by decide +kernel
theorem d_Model_guards_38 : decode b_Model_guards 38 = .ok (.iaload, 1) := by decide +kernel
theorem d_Model_guards_39 : decode b_Model_guards 39 = .ok (.iconst 1, 1) := by decide +kernel
theorem d_Model_guards_40 : decode b_Model_guards 40 = .ok (.isub, 1) := by decide +kernel
theorem d_Model_guards_41 : decode b_Model_guards 41 = .ok (.invokestatic 134, 3) := by decide +kernel
theorem d_Model_guards_44 : decode b_Model_guards 44 = .ok (.istore_n 3, 1) := by decide +kernel
theorem d_Model_guards_45 : decode b_Model_guards 45 = .ok (.aload_n 0, 1) := by decide +kernel
theorem d_Model_guards_46 : decode b_Model_guards 46 = .ok (.getfield 13, 3) := by decide +kernel
theorem d_Model_guards_49 : decode b_Model_guards 49 = .ok (.bipush 10, 2) := by decide +kernel
theorem d_Model_guards_51 : decode b_Model_guards 51 = .ok (.iload_n 1, 1) := by decide +kernel
theorem d_Model_guards_52 : decode b_Model_guards 52 = .ok (.imul, 1) := by decide +kernel
theorem d_Model_guards_53 : decode b_Model_guards 53 = .ok (.iload_n 2, 1) := by decide +kernel
theorem d_Model_guards_54 : decode b_Model_guards 54 = .ok (.iadd, 1) := by decide +kernel
theorem d_Model_guards_55 : decode b_Model_guards 55 = .ok (.iaload, 1) := by decide +kernel
theorem d_Model_guards_56 : decode b_Model_guards 56 = .ok (.iconst 4, 1) := by decide +kernel
theorem d_Model_guards_57 : decode b_Model_guards 57 = .ok (.if_icmp .eq 6, 3) := by decide +kernel
theorem d_Model_guards_60 : decode b_Model_guards 60 = .ok (.goto 79, 3) := by decide +kernel
theorem d_Model_guards_63 : decode b_Model_guards 63 = .ok (.iconst 0, 1) := by decide +kernel
theorem d_Model_guards_64 : decode b_Model_guards 64 = .ok (.istore 4, 2) := by decide +kernel
theorem d_Model_guards_66 : decode b_Model_guards 66 = .ok (.iload 4, 2) := by decide +kernel
theorem d_Model_guards_68 : decode b_Model_guards 68 = .ok (.iload_n 2, 1) := by decide +kernel
theorem d_Model_guards_69 : decode b_Model_guards 69 = .ok (.if_icmp .ge 58, 3) := by decide +kernel
theorem d_Model_guards_72 : decode b_Model_guards 72 = .ok (.aload_n 0, 1) := by decide +kernel
theorem d_Model_guards_73 : decode b_Model_guards 73 = .ok (.getfield 13, 3) := by decide +kernel
theorem d_Model_guards_76 : decode b_Model_guards 76 = .ok (.bipush 10, 2) := by decide +kernel
theorem d_Model_guards_78 : decode b_Model_guards 78 = .ok (.iload_n 1, 1) := by decide +kernel
theorem d_Model_guards_79 : decode b_Model_guards 79 = .ok (.imul, 1) := by decide +kernel
theorem d_Model_guards_80 : decode b_Model_guards 80 = .ok (.iload 4, 2) := by decide +kernel
theorem d_Model_guards_82 : decode b_Model_guards 82 = .ok (.iadd, 1) := by decide +kernel
theorem d_Model_guards_83 : decode b_Model_guards 83 = .ok (.iaload, 1) := by decide +kernel
theorem d_Model_guards_84 : decode b_Model_guards 84 = .ok (.iconst 4, 1) := by decide +kernel
theorem d_Model_guards_85 : decode b_Model_guards 85 = .ok (.if_icmp .ne 36, 3) := by decide +kernel
theorem d_Model_guards_88 : decode b_Model_guards 88 = .ok (.aload_n 0, 1) := by decide +kernel
theorem d_Model_guards_89 : decode b_Model_guards 89 = .ok (.getfield 23, 3) := by decide +kernel
theorem d_Model_guards_92 : decode b_Model_guards 92 = .ok (.bipush 10, 2) := by decide +kernel
theorem d_Model_guards_94 : decode b_Model_guards 94 = .ok (.iload_n 1, 1) := by decide +kernel
theorem d_Model_guards_95 : decode b_Model_guards 95 = .ok (.imul, 1) := by decide +kernel
theorem d_Model_guards_96 : decode b_Model_guards 96 = .ok (.iload 4, 2) := by decide +kernel
theorem d_Model_guards_98 : decode b_Model_guards 98 = .ok (.iadd, 1) := by decide +kernel
theorem d_Model_guards_99 : decode b_Model_guards 99 = .ok (.iaload, 1) := by decide +kernel
theorem d_Model_guards_100 : decode b_Model_guards 100 = .ok (.iload_n 2, 1) := by decide +kernel
theorem d_Model_guards_101 : decode b_Model_guards 101 = .ok (.if_icmp .lt 20, 3) := by decide +kernel
theorem d_Model_guards_104 : decode b_Model_guards 104 = .ok (.iload_n 3, 1) := by decide +kernel
theorem d_Model_guards_105 : decode b_Model_guards 105 = .ok (.aload_n 0, 1) := by decide +kernel
theorem d_Model_guards_106 : decode b_Model_guards 106 = .ok (.getfield 23, 3) := by decide +kernel
theorem d_Model_guards_109 : decode b_Model_guards 109 = .ok (.bipush 10, 2) := by decide +kernel
theorem d_Model_guards_111 : decode b_Model_guards 111 = .ok (.iload_n 1, 1) := by decide +kernel
theorem d_Model_guards_112 : decode b_Model_guards 112 = .ok (.imul, 1) := by decide +kernel
theorem d_Model_guards_113 : decode b_Model_guards 113 = .ok (.iload 4, 2) := by decide +kernel
theorem d_Model_guards_115 : decode b_Model_guards 115 = .ok (.iadd, 1) := by decide +kernel
theorem d_Model_guards_116 : decode b_Model_guards 116 = .ok (.iaload, 1) := by decide +kernel
theorem d_Model_guards_117 : decode b_Model_guards 117 = .ok (.invokestatic 134, 3) := by decide +kernel
theorem d_Model_guards_120 : decode b_Model_guards 120 = .ok (.istore_n 3, 1) := by decide +kernel
theorem d_Model_guards_121 : decode b_Model_guards 121 = .ok (.iinc 4 1, 3) := by decide +kernel
theorem d_Model_guards_124 : decode b_Model_guards 124 = .ok (.goto (-58), 3) := by decide +kernel
theorem d_Model_guards_127 : decode b_Model_guards 127 = .ok (.aload_n 0, 1) := by decide +kernel
theorem d_Model_guards_128 : decode b_Model_guards 128 = .ok (.getfield 23, 3) := by decide +kernel
theorem d_Model_guards_131 : decode b_Model_guards 131 = .ok (.bipush 10, 2) := by decide +kernel
theorem d_Model_guards_133 : decode b_Model_guards 133 = .ok (.iload_n 1, 1) := by decide +kernel
theorem d_Model_guards_134 : decode b_Model_guards 134 = .ok (.imul, 1) := by decide +kernel
theorem d_Model_guards_135 : decode b_Model_guards 135 = .ok (.iload_n 2, 1) := by decide +kernel
theorem d_Model_guards_136 : decode b_Model_guards 136 = .ok (.iadd, 1) := by decide +kernel
theorem d_Model_guards_137 : decode b_Model_guards 137 = .ok (.iload_n 3, 1) := by decide +kernel
theorem d_Model_guards_138 : decode b_Model_guards 138 = .ok (.iastore, 1) := by decide +kernel
theorem d_Model_guards_139 : decode b_Model_guards 139 = .ok (.iinc 2 1, 3) := by decide +kernel
theorem d_Model_guards_142 : decode b_Model_guards 142 = .ok (.goto (-132), 3) := by decide +kernel
theorem d_Model_guards_145 : decode b_Model_guards 145 = .ok (.iinc 1 1, 3) := by decide +kernel
theorem d_Model_guards_148 : decode b_Model_guards 148 = .ok (.goto (-146), 3) := by decide +kernel
theorem d_Model_guards_151 : decode b_Model_guards 151 = .ok (.return_, 1) := by decide +kernel
theorem d_Model_least_0 : decode b_Model_least 0 = .ok (.iload_n 0, 1) := by decide +kernel
theorem d_Model_least_1 : decode b_Model_least 1 = .ok (.iload_n 1, 1) := by decide +kernel
theorem d_Model_least_2 : decode b_Model_least 2 = .ok (.if_icmp .ge 7, 3) := by decide +kernel
theorem d_Model_least_5 : decode b_Model_least 5 = .ok (.iload_n 0, 1) := by decide +kernel
theorem d_Model_least_6 : decode b_Model_least 6 = .ok (.goto 4, 3) := by decide +kernel
theorem d_Model_least_9 : decode b_Model_least 9 = .ok (.iload_n 1, 1) := by decide +kernel
theorem d_Model_least_10 : decode b_Model_least 10 = .ok (.ireturn, 1) := by decide +kernel
theorem d_Model_interrupts_0 : decode b_Model_interrupts 0 = .ok (.aload_n 0, 1) := by decide +kernel
theorem d_Model_interrupts_1 : decode b_Model_interrupts 1 = .ok (.getfield 87, 3) := by decide +kernel
theorem d_Model_interrupts_4 : decode b_Model_interrupts 4 = .ok (.iload_n 1, 1) := by decide +kernel
theorem d_Model_interrupts_5 : decode b_Model_interrupts 5 = .ok (.iconst 0, 1) := by decide +kernel
theorem d_Model_interrupts_6 : decode b_Model_interrupts 6 = .ok (.bastore, 1) := by decide +kernel
theorem d_Model_interrupts_7 : decode b_Model_interrupts 7 = .ok (.bipush 10, 2) := by decide +kernel
theorem d_Model_interrupts_9 : decode b_Model_interrupts 9 = .ok (.aload_n 0, 1) := by decide +kernel
theorem d_Model_interrupts_10 : decode b_Model_interrupts 10 = .ok (.getfield 75, 3) := by decide +kernel
theorem d_Model_interrupts_13 : decode b_Model_interrupts 13 = .ok (.iload_n 1, 1) := by decide +kernel
theorem d_Model_interrupts_14 : decode b_Model_interrupts 14 = .ok (.iaload, 1) := by decide +kernel
theorem d_Model_interrupts_15 : decode b_Model_interrupts 15 = .ok (.imul, 1) := by decide +kernel
theorem d_Model_interrupts_16 : decode b_Model_interrupts 16 = .ok (.istore_n 3, 1) := by decide +kernel
theorem d_Model_interrupts_17 : decode b_Model_interrupts 17 = .ok (.iconst (-1), 1) := by decide +kernel
theorem d_Model_interrupts_18 : decode b_Model_interrupts 18 = .ok (.istore 4, 2) := by decide +kernel
theorem d_Model_interrupts_20 : decode b_Model_interrupts 20 = .ok (.iconst 0, 1) := by decide +kernel
theorem d_Model_interrupts_21 : decode b_Model_interrupts 21 = .ok (.istore 5, 2) := by decide +kernel
theorem d_Model_interrupts_23 : decode b_Model_interrupts 23 = .ok (.iload 5, 2) := by decide +kernel
theorem d_Model_interrupts_25 : decode b_Model_interrupts 25 = .ok (.iload_n 2, 1) := by decide +kernel
theorem d_Model_interrupts_26 : decode b_Model_interrupts 26 = .ok (.if_icmp .ge 39, 3) := by decide +kernel
theorem d_Model_interrupts_29 : decode b_Model_interrupts 29 = .ok (.aload_n 0, 1) := by decide +kernel
theorem d_Model_interrupts_30 : decode b_Model_interrupts 30 = .ok (.getfield 13, 3) := by decide +kernel
theorem d_Model_interrupts_33 : decode b_Model_interrupts 33 = .ok (.iload_n 3, 1) := by decide +kernel
theorem d_Model_interrupts_34 : decode b_Model_interrupts 34 = .ok (.iload 5, 2) := by decide +kernel
theorem d_Model_interrupts_36 : decode b_Model_interrupts 36 = .ok (.iadd, 1) := by decide +kernel
theorem d_Model_interrupts_37 : decode b_Model_interrupts 37 = .ok (.iaload, 1) := by decide +kernel
theorem d_Model_interrupts_38 : decode b_Model_interrupts 38 = .ok (.iconst 4, 1) := by decide +kernel
theorem d_Model_interrupts_39 : decode b_Model_interrupts 39 = .ok (.if_icmp .ne 20, 3) := by decide +kernel
theorem d_Model_interrupts_42 : decode b_Model_interrupts 42 = .ok (.aload_n 0, 1) := by decide +kernel
theorem d_Model_interrupts_43 : decode b_Model_interrupts 43 = .ok (.getfield 23, 3) := by decide +kernel
theorem d_Model_interrupts_46 : decode b_Model_interrupts 46 = .ok (.iload_n 3, 1) := by decide +kernel
theorem d_Model_interrupts_47 : decode b_Model_interrupts 47 = .ok (.iload 5, 2) := by decide +kernel
theorem d_Model_interrupts_49 : decode b_Model_interrupts 49 = .ok (.iadd, 1) := by decide +kernel
theorem d_Model_interrupts_50 : decode b_Model_interrupts 50 = .ok (.iaload, 1) := by decide +kernel
theorem d_Model_interrupts_51 : decode b_Model_interrupts 51 = .ok (.iload_n 2, 1) := by decide +kernel
theorem d_Model_interrupts_52 : decode b_Model_interrupts 52 = .ok (.if_icmp .lt 7, 3) := by decide +kernel
theorem d_Model_interrupts_55 : decode b_Model_interrupts 55 = .ok (.iload 5, 2) := by decide +kernel
theorem d_Model_interrupts_57 : decode b_Model_interrupts 57 = .ok (.istore 4, 2) := by decide +kernel
theorem d_Model_interrupts_59 : decode b_Model_interrupts 59 = .ok (.iinc 5 1, 3) := by decide +kernel
theorem d_Model_interrupts_62 : decode b_Model_interrupts 62 = .ok (.goto (-39), 3) := by decide +kernel
theorem d_Model_interrupts_65 : decode b_Model_interrupts 65 = .ok (.iload 4, 2) := by decide +kernel
theorem d_Model_interrupts_67 : decode b_Model_interrupts 67 = .ok (.ifCond .ge 13, 3) := by decide +kernel
theorem d_Model_interrupts_70 : decode b_Model_interrupts 70 = .ok (.aload_n 0, 1) := by decide +kernel
theorem d_Model_interrupts_71 : decode b_Model_interrupts 71 = .ok (.iload_n 1, 1) := by decide +kernel
theorem d_Model_interrupts_72 : decode b_Model_interrupts 72 = .ok (.bipush 100, 2) := by decide +kernel
theorem d_Model_interrupts_74 : decode b_Model_interrupts 74 = .ok (.invokevirtual 138, 3) := by decide +kernel
theorem d_Model_interrupts_77 : decode b_Model_interrupts 77 = .ok (.goto 27, 3) := by decide +kernel
theorem d_Model_interrupts_80 : decode b_Model_interrupts 80 = .ok (.aload_n 0, 1) := by decide +kernel
theorem d_Model_interrupts_81 : decode b_Model_interrupts 81 = .ok (.getfield 81, 3) := by decide +kernel
theorem d_Model_interrupts_84 : decode b_Model_interrupts 84 = .ok (.iload_n 1, 1) := by decide +kernel
theorem d_Model_interrupts_85 : decode b_Model_interrupts 85 = .ok (.iconst 0, 1) := by decide +kernel
theorem d_Model_interrupts_86 : decode b_Model_interrupts 86 = .ok (.iastore, 1) := by decide +kernel
theorem d_Model_interrupts_87 : decode b_Model_interrupts 87 = .ok (.aload_n 0, 1) := by decide +kernel
theorem d_Model_interrupts_88 : decode b_Model_interrupts 88 = .ok (.getfield 78, 3) := by decide +kernel
theorem d_Model_interrupts_91 : decode b_Model_interrupts 91 = .ok (.iload_n 1, 1) := by decide +kernel
theorem d_Model_interrupts_92 : decode b_Model_interrupts 92 = .ok (.aload_n 0, 1) := by decide +kernel
theorem d_Model_interrupts_93 : decode b_Model_interrupts 93 = .ok (.getfield 23, 3) := by decide +kernel
theorem d_Model_interrupts_96 : decode b_Model_interrupts 96 = .ok (.iload_n 3, 1) := by decide +kernel
theorem d_Model_interrupts_97 : decode b_Model_interrupts 97 = .ok (.iload 4, 2) := by decide +kernel
theorem d_Model_interrupts_99 : decode b_Model_interrupts 99 = .ok (.iadd, 1) := by decide +kernel
theorem d_Model_interrupts_100 : decode b_Model_interrupts 100 = .ok (.iaload, 1) := by decide +kernel
theorem d_Model_interrupts_101 : decode b_Model_interrupts 101 = .ok (.iconst 1, 1) := by decide +kernel
theorem d_Model_interrupts_102 : decode b_Model_interrupts 102 = .ok (.iadd, 1) := by decide +kernel
theorem d_Model_interrupts_103 : decode b_Model_interrupts 103 = .ok (.iastore, 1) := by decide +kernel
theorem d_Model_interrupts_104 : decode b_Model_interrupts 104 = .ok (.return_, 1) := by decide +kernel
theorem d_Model_joined_0 : decode b_Model_joined 0 = .ok (.iconst 0, 1) := by decide +kernel
theorem d_Model_joined_1 : decode b_Model_joined 1 = .ok (.istore_n 2, 1) := by decide +kernel
theorem d_Model_joined_2 : decode b_Model_joined 2 = .ok (.iload_n 2, 1) := by decide +kernel
theorem d_Model_joined_3 : decode b_Model_joined 3 = .ok (.aload_n 0, 1) := by decide +kernel
theorem d_Model_joined_4 : decode b_Model_joined 4 = .ok (.getfield 131, 3) := by decide +kernel
theorem d_Model_joined_7 : decode b_Model_joined 7 = .ok (.if_icmp .ge 31, 3) := by decide +kernel
theorem d_Model_joined_10 : decode b_Model_joined 10 = .ok (.aload_n 0, 1) := by decide +kernel
theorem d_Model_joined_11 : decode b_Model_joined 11 = .ok (.getfield 72, 3) := by decide +kernel
theorem d_Model_joined_14 : decode b_Model_joined 14 = .ok (.iload_n 2, 1) := by decide +kernel
theorem d_Model_joined_15 : decode b_Model_joined 15 = .ok (.iaload, 1) := by decide +kernel
theorem d_Model_joined_16 : decode b_Model_joined 16 = .ok (.iload_n 1, 1) := by decide +kernel
theorem d_Model_joined_17 : decode b_Model_joined 17 = .ok (.if_icmp .ne 15, 3) := by decide +kernel
theorem d_Model_joined_20 : decode b_Model_joined 20 = .ok (.aload_n 0, 1) := by decide +kernel
theorem d_Model_joined_21 : decode b_Model_joined 21 = .ok (.getfield 81, 3) := by decide +kernel
theorem d_Model_joined_24 : decode b_Model_joined 24 = .ok (.iload_n 2, 1) := by decide +kernel
theorem d_Model_joined_25 : decode b_Model_joined 25 = .ok (.iaload, 1) := by decide +kernel
theorem d_Model_joined_26 : decode b_Model_joined 26 = .ok (.iconst 5, 1) := by decide +kernel
theorem d_Model_joined_27 : decode b_Model_joined 27 = .ok (.if_icmp .eq 5, 3) := by decide +kernel
theorem d_Model_joined_30 : decode b_Model_joined 30 = .ok (.iconst 0, 1) := by decide +kernel
theorem d_Model_joined_31 : decode b_Model_joined 31 = .ok (.ireturn, 1) := by decide +kernel
theorem d_Model_joined_32 : decode b_Model_joined 32 = .ok (.iinc 2 1, 3) := by decide +kernel
theorem d_Model_joined_35 : decode b_Model_joined 35 = .ok (.goto (-33), 3) := by decide +kernel
theorem d_Model_joined_38 : decode b_Model_joined 38 = .ok (.iconst 1, 1) := by decide +kernel
theorem d_Model_joined_39 : decode b_Model_joined 39 = .ok (.ireturn, 1) := by decide +kernel
theorem d_Model_turn_0 : decode b_Model_turn 0 = .ok (.aload_n 0, 1) := by decide +kernel
theorem d_Model_turn_1 : decode b_Model_turn 1 = .ok (.getfield 81, 3) := by decide +kernel
theorem d_Model_turn_4 : decode b_Model_turn 4 = .ok (.iload_n 1, 1) := by decide +kernel
theorem d_Model_turn_5 : decode b_Model_turn 5 = .ok (.iaload, 1) := by decide +kernel
theorem d_Model_turn_6 : decode b_Model_turn 6 = .ok (.istore_n 2, 1) := by decide +kernel
theorem d_Model_turn_7 : decode b_Model_turn 7 = .ok (.iload_n 2, 1) := by decide +kernel
theorem d_Model_turn_8 : decode b_Model_turn 8 = .ok (.ifCond .eq 33, 3) := by decide +kernel
theorem d_Model_turn_11 : decode b_Model_turn 11 = .ok (.iload_n 2, 1) := by decide +kernel
theorem d_Model_turn_12 : decode b_Model_turn 12 = .ok (.iconst 1, 1) := by decide +kernel
theorem d_Model_turn_13 : decode b_Model_turn 13 = .ok (.if_icmp .eq 28, 3) := by decide +kernel
theorem d_Model_turn_16 : decode b_Model_turn 16 = .ok (.aload_n 0, 1) := by decide +kernel
theorem d_Model_turn_17 : decode b_Model_turn 17 = .ok (.getfield 87, 3) := by decide +kernel
theorem d_Model_turn_20 : decode b_Model_turn 20 = .ok (.iload_n 1, 1) := by decide +kernel
theorem d_Model_turn_21 : decode b_Model_turn 21 = .ok (.baload, 1) := by decide +kernel
theorem d_Model_turn_22 : decode b_Model_turn 22 = .ok (.ifCond .eq 19, 3) := by decide +kernel
theorem d_Model_turn_25 : decode b_Model_turn 25 = .ok (.aload_n 0, 1) := by decide +kernel
theorem d_Model_turn_26 : decode b_Model_turn 26 = .ok (.iload_n 1, 1) := by decide +kernel
theorem d_Model_turn_27 : decode b_Model_turn 27 = .ok (.aload_n 0, 1) := by decide +kernel
theorem d_Model_turn_28 : decode b_Model_turn 28 = .ok (.getfield 78, 3) := by decide +kernel
theorem d_Model_turn_31 : decode b_Model_turn 31 = .ok (.iload_n 1, 1) := by decide +kernel
theorem d_Model_turn_32 : decode b_Model_turn 32 = .ok (.iaload, 1) := by decide +kernel
theorem d_Model_turn_33 : decode b_Model_turn 33 = .ok (.iconst 1, 1) := by decide +kernel
theorem d_Model_turn_34 : decode b_Model_turn 34 = .ok (.isub, 1) := by decide +kernel
theorem d_Model_turn_35 : decode b_Model_turn 35 = .ok (.invokevirtual 140, 3) := by decide +kernel
theorem d_Model_turn_38 : decode b_Model_turn 38 = .ok (.goto 46, 3) := by decide +kernel
theorem d_Model_turn_41 : decode b_Model_turn 41 = .ok (.iload_n 2, 1) := by decide +kernel
theorem d_Model_turn_42 : decode b_Model_turn 42 = .ok (.iconst 1, 1) := by decide +kernel
theorem d_Model_turn_43 : decode b_Model_turn 43 = .ok (.if_icmp .eq 8, 3) := by decide +kernel
theorem d_Model_turn_46 : decode b_Model_turn 46 = .ok (.iload_n 2, 1) := by decide +kernel
theorem d_Model_turn_47 : decode b_Model_turn 47 = .ok (.iconst 2, 1) := by decide +kernel
theorem d_Model_turn_48 : decode b_Model_turn 48 = .ok (.if_icmp .ne 16, 3) := by decide +kernel
theorem d_Model_turn_51 : decode b_Model_turn 51 = .ok (.aload_n 0, 1) := by decide +kernel
theorem d_Model_turn_52 : decode b_Model_turn 52 = .ok (.getfield 117, 3) := by decide +kernel
theorem d_Model_turn_55 : decode b_Model_turn 55 = .ok (.aload_n 0, 1) := by decide +kernel
theorem d_Model_turn_56 : decode b_Model_turn 56 = .ok (.getfield 84, 3) := by decide +kernel
theorem d_Model_turn_59 : decode b_Model_turn 59 = .ok (.iload_n 1, 1) := by decide +kernel
theorem d_Model_turn_60 : decode b_Model_turn 60 = .ok (.iaload, 1) := by decide +kernel
theorem d_Model_turn_61 : decode b_Model_turn 61 = .ok (.if_icmp .ge 16, 3) := by decide +kernel
theorem d_Model_turn_64 : decode b_Model_turn 64 = .ok (.iload_n 2, 1) := by decide +kernel
theorem d_Model_turn_65 : decode b_Model_turn 65 = .ok (.iconst 4, 1) := by decide +kernel
theorem d_Model_turn_66 : decode b_Model_turn 66 = .ok (.if_icmp .ne 18, 3) := by decide +kernel
theorem d_Model_turn_69 : decode b_Model_turn 69 = .ok (.aload_n 0, 1) := by decide +kernel
theorem d_Model_turn_70 : decode b_Model_turn 70 = .ok (.iload_n 1, 1) := by decide +kernel
theorem d_Model_turn_71 : decode b_Model_turn 71 = .ok (.invokevirtual 143, 3) := by decide +kernel
theorem d_Model_turn_74 : decode b_Model_turn 74 = .ok (.ifCond .eq 10, 3) := by decide +kernel
theorem d_Model_turn_77 : decode b_Model_turn 77 = .ok (.aload_n 0, 1) := by decide +kernel
theorem d_Model_turn_78 : decode b_Model_turn 78 = .ok (.getfield 81, 3) := by decide +kernel
theorem d_Model_turn_81 : decode b_Model_turn 81 = .ok (.iload_n 1, 1) := by decide +kernel
theorem d_Model_turn_82 : decode b_Model_turn 82 = .ok (.iconst 0, 1) := by decide +kernel
theorem d_Model_turn_83 : decode b_Model_turn 83 = .ok (.iastore, 1) := by decide +kernel
theorem d_Model_turn_84 : decode b_Model_turn 84 = .ok (.aload_n 0, 1) := by decide +kernel
theorem d_Model_turn_85 : decode b_Model_turn 85 = .ok (.getfield 81, 3) := by decide +kernel
theorem d_Model_turn_88 : decode b_Model_turn 88 = .ok (.iload_n 1, 1) := by decide +kernel
theorem d_Model_turn_89 : decode b_Model_turn 89 = .ok (.iaload, 1) := by decide +kernel
theorem d_Model_turn_90 : decode b_Model_turn 90 = .ok (.ifCond .ne 56, 3) := by decide +kernel
theorem d_Model_turn_93 : decode b_Model_turn 93 = .ok (.aload_n 0, 1) := by decide +kernel
theorem d_Model_turn_94 : decode b_Model_turn 94 = .ok (.getfield 78, 3) := by decide +kernel
theorem d_Model_turn_97 : decode b_Model_turn 97 = .ok (.iload_n 1, 1) := by decide +kernel
theorem d_Model_turn_98 : decode b_Model_turn 98 = .ok (.iaload, 1) := by decide +kernel
theorem d_Model_turn_99 : decode b_Model_turn 99 = .ok (.aload_n 0, 1) := by decide +kernel
theorem d_Model_turn_100 : decode b_Model_turn 100 = .ok (.getfield 20, 3) := by decide +kernel
theorem d_Model_turn_103 : decode b_Model_turn 103 = .ok (.aload_n 0, 1) := by decide +kernel
theorem d_Model_turn_104 : decode b_Model_turn 104 = .ok (.getfield 75, 3) := by decide +kernel
theorem d_Model_turn_107 : decode b_Model_turn 107 = .ok (.iload_n 1, 1) := by decide +kernel
theorem d_Model_turn_108 : decode b_Model_turn 108 = .ok (.iaload, 1) := by decide +kernel
theorem d_Model_turn_109 : decode b_Model_turn 109 = .ok (.iaload, 1) := by decide +kernel
theorem d_Model_turn_110 : decode b_Model_turn 110 = .ok (.if_icmp .lt 12, 3) := by decide +kernel
theorem d_Model_turn_113 : decode b_Model_turn 113 = .ok (.aload_n 0, 1) := by decide +kernel
theorem d_Model_turn_114 : decode b_Model_turn 114 = .ok (.iload_n 1, 1) := by decide +kernel
theorem d_Model_turn_115 : decode b_Model_turn 115 = .ok (.iconst (-1), 1) := by decide +kernel
theorem d_Model_turn_116 : decode b_Model_turn 116 = .ok (.invokevirtual 138, 3) := by decide +kernel
theorem d_Model_turn_119 : decode b_Model_turn 119 = .ok (.goto (-35), 3) := by decide +kernel
theorem d_Model_turn_122 : decode b_Model_turn 122 = .ok (.aload_n 0, 1) := by decide +kernel
theorem d_Model_turn_123 : decode b_Model_turn 123 = .ok (.iload_n 1, 1) := by decide +kernel
theorem d_Model_turn_124 : decode b_Model_turn 124 = .ok (.bipush 10, 2) := by decide +kernel
theorem d_Model_turn_126 : decode b_Model_turn 126 = .ok (.aload_n 0, 1) := by decide +kernel
theorem d_Model_turn_127 : decode b_Model_turn 127 = .ok (.getfield 75, 3) := by decide +kernel
theorem d_Model_turn_130 : decode b_Model_turn 130 = .ok (.iload_n 1, 1) := by decide +kernel
theorem d_Model_turn_131 : decode b_Model_turn 131 = .ok (.iaload, 1) := by decide +kernel
theorem d_Model_turn_132 : decode b_Model_turn 132 = .ok (.imul, 1) := by decide +kernel
theorem d_Model_turn_133 : decode b_Model_turn 133 = .ok (.aload_n 0, 1) := by decide +kernel
theorem d_Model_turn_134 : decode b_Model_turn 134 = .ok (.getfield 78, 3) := by decide +kernel
theorem d_Model_turn_137 : decode b_Model_turn 137 = .ok (.iload_n 1, 1) := by decide +kernel
theorem d_Model_turn_138 : decode b_Model_turn 138 = .ok (.iaload, 1) := by decide +kernel
theorem d_Model_turn_139 : decode b_Model_turn 139 = .ok (.iadd, 1) := by decide +kernel
theorem d_Model_turn_140 : decode b_Model_turn 140 = .ok (.invokevirtual 147, 3) := by decide +kernel
theorem d_Model_turn_143 : decode b_Model_turn 143 = .ok (.goto (-59), 3) := by decide +kernel
theorem d_Model_turn_146 : decode b_Model_turn 146 = .ok (.return_, 1) := by decide +kernel
theorem d_Model_says_0 : decode b_Model_says 0 = .ok (.aload_n 0, 1) := by decide +kernel
theorem d_Model_says_1 : decode b_Model_says 1 = .ok (.getfield 150, 3) := by decide +kernel
theorem d_Model_says_4 : decode b_Model_says 4 = .ok (.bipush 12, 2) := by decide +kernel
theorem d_Model_says_6 : decode b_Model_says 6 = .ok (.if_icmp .ge 23, 3) := by decide +kernel
theorem d_Model_says_9 : decode b_Model_says 9 = .ok (.aload_n 0, 1) := by decide +kernel
theorem d_Model_says_10 : decode b_Model_says 10 = .ok (.getfield 93, 3) := by decide +kernel
theorem d_Model_says_13 : decode b_Model_says 13 = .ok (.aload_n 0, 1) := by decide +kernel
theorem d_Model_says_14 : decode b_Model_says 14 = .ok (.getfield 150, 3) := by decide +kernel
theorem d_Model_says_17 : decode b_Model_says 17 = .ok (.bipush 100, 2) := by decide +kernel
theorem d_Model_says_19 : decode b_Model_says 19 = .ok (.aload_n 0, 1) := by decide +kernel
theorem d_Model_says_20 : decode b_Model_says 20 = .ok (.getfield 69, 3) := by decide +kernel
theorem d_Model_says_23 : decode b_Model_says 23 = .ok (.iload_n 1, 1) := by decide +kernel
theorem d_Model_says_24 : decode b_Model_says 24 = .ok (.iaload, 1) := by decide +kernel
theorem d_Model_says_25 : decode b_Model_says 25 = .ok (.imul, 1) := by decide +kernel
theorem d_Model_says_26 : decode b_Model_says 26 = .ok (.iload_n 2, 1) := by decide +kernel
theorem d_Model_says_27 : decode b_Model_says 27 = .ok (.iadd, 1) := by decide +kernel
theorem d_Model_says_28 : decode b_Model_says 28 = .ok (.iastore, 1) := by decide +kernel
theorem d_Model_says_29 : decode b_Model_says 29 = .ok (.aload_n 0, 1) := by decide +kernel
theorem d_Model_says_30 : decode b_Model_says 30 = .ok (.dup, 1) := by decide +kernel
theorem d_Model_says_31 : decode b_Model_says 31 = .ok (.getfield 150, 3) := by decide +kernel
theorem d_Model_says_34 : decode b_Model_says 34 = .ok (.iconst 1, 1) := by decide +kernel
theorem d_Model_says_35 : decode b_Model_says 35 = .ok (.iadd, 1) := by decide +kernel
theorem d_Model_says_36 : decode b_Model_says 36 = .ok (.putfield 150, 3) := by decide +kernel
theorem d_Model_says_39 : decode b_Model_says 39 = .ok (.return_, 1) := by decide +kernel
theorem d_Model_waits_0 : decode b_Model_waits 0 = .ok (.iload_n 2, 1) := by decide +kernel
theorem d_Model_waits_1 : decode b_Model_waits 1 = .ok (.iconst 1, 1) := by decide +kernel
theorem d_Model_waits_2 : decode b_Model_waits 2 = .ok (.if_icmp .eq 26, 3) := by decide +kernel
theorem d_Model_waits_5 : decode b_Model_waits 5 = .ok (.aload_n 0, 1) := by decide +kernel
theorem d_Model_waits_6 : decode b_Model_waits 6 = .ok (.getfield 87, 3) := by decide +kernel
theorem d_Model_waits_9 : decode b_Model_waits 9 = .ok (.iload_n 1, 1) := by decide +kernel
theorem d_Model_waits_10 : decode b_Model_waits 10 = .ok (.baload, 1) := by decide +kernel
theorem d_Model_waits_11 : decode b_Model_waits 11 = .ok (.ifCond .eq 17, 3) := by decide +kernel
theorem d_Model_waits_14 : decode b_Model_waits 14 = .ok (.aload_n 0, 1) := by decide +kernel
theorem d_Model_waits_15 : decode b_Model_waits 15 = .ok (.iload_n 1, 1) := by decide +kernel
theorem d_Model_waits_16 : decode b_Model_waits 16 = .ok (.aload_n 0, 1) := by decide +kernel
theorem d_Model_waits_17 : decode b_Model_waits 17 = .ok (.getfield 78, 3) := by decide +kernel
theorem d_Model_waits_20 : decode b_Model_waits 20 = .ok (.iload_n 1, 1) := by decide +kernel
theorem d_Model_waits_21 : decode b_Model_waits 21 = .ok (.iaload, 1) := by decide +kernel
theorem d_Model_waits_22 : decode b_Model_waits 22 = .ok (.iconst 1, 1) := by decide +kernel
theorem d_Model_waits_23 : decode b_Model_waits 23 = .ok (.isub, 1) := by decide +kernel
theorem d_Model_waits_24 : decode b_Model_waits 24 = .ok (.invokevirtual 140, 3) := by decide +kernel
theorem d_Model_waits_27 : decode b_Model_waits 27 = .ok (.return_, 1) := by decide +kernel
theorem d_Model_waits_28 : decode b_Model_waits 28 = .ok (.aload_n 0, 1) := by decide +kernel
theorem d_Model_waits_29 : decode b_Model_waits 29 = .ok (.getfield 81, 3) := by decide +kernel
theorem d_Model_waits_32 : decode b_Model_waits 32 = .ok (.iload_n 1, 1) := by decide +kernel
theorem d_Model_waits_33 : decode b_Model_waits 33 = .ok (.iload_n 2, 1) := by decide +kernel
theorem d_Model_waits_34 : decode b_Model_waits 34 = .ok (.iastore, 1) := by decide +kernel
theorem d_Model_waits_35 : decode b_Model_waits 35 = .ok (.aload_n 0, 1) := by decide +kernel
theorem d_Model_waits_36 : decode b_Model_waits 36 = .ok (.getfield 84, 3) := by decide +kernel
theorem d_Model_waits_39 : decode b_Model_waits 39 = .ok (.iload_n 1, 1) := by decide +kernel
theorem d_Model_waits_40 : decode b_Model_waits 40 = .ok (.aload_n 0, 1) := by decide +kernel
theorem d_Model_waits_41 : decode b_Model_waits 41 = .ok (.getfield 117, 3) := by decide +kernel
theorem d_Model_waits_44 : decode b_Model_waits 44 = .ok (.iload_n 3, 1) := by decide +kernel
theorem d_Model_waits_45 : decode b_Model_waits 45 = .ok (.iadd, 1) := by decide +kernel
theorem d_Model_waits_46 : decode b_Model_waits 46 = .ok (.iastore, 1) := by decide +kernel
theorem d_Model_waits_47 : decode b_Model_waits 47 = .ok (.return_, 1) := by decide +kernel
theorem d_Model_acts_0 : decode b_Model_acts 0 = .ok (.aload_n 0, 1) := by decide +kernel
theorem d_Model_acts_1 : decode b_Model_acts 1 = .ok (.getfield 17, 3) := by decide +kernel
theorem d_Model_acts_4 : decode b_Model_acts 4 = .ok (.iload_n 2, 1) := by decide +kernel
theorem d_Model_acts_5 : decode b_Model_acts 5 = .ok (.iaload, 1) := by decide +kernel
theorem d_Model_acts_6 : decode b_Model_acts 6 = .ok (.istore_n 3, 1) := by decide +kernel
theorem d_Model_acts_7 : decode b_Model_acts 7 = .ok (.aload_n 0, 1) := by decide +kernel
theorem d_Model_acts_8 : decode b_Model_acts 8 = .ok (.getfield 78, 3) := by decide +kernel
theorem d_Model_acts_11 : decode b_Model_acts 11 = .ok (.iload_n 1, 1) := by decide +kernel
theorem d_Model_acts_12 : decode b_Model_acts 12 = .ok (.dup2, 1) := by decide +kernel
theorem d_Model_acts_13 : decode b_Model_acts 13 = .ok (.iaload, 1) := by decide +kernel
theorem d_Model_acts_14 : decode b_Model_acts 14 = .ok (.iconst 1, 1) := by decide +kernel
theorem d_Model_acts_15 : decode b_Model_acts 15 = .ok (.iadd, 1) := by decide +kernel
theorem d_Model_acts_16 : decode b_Model_acts 16 = .ok (.iastore, 1) := by decide +kernel
theorem d_Model_acts_17 : decode b_Model_acts 17 = .ok (.aload_n 0, 1) := by decide +kernel
theorem d_Model_acts_18 : decode b_Model_acts 18 = .ok (.getfield 13, 3) := by decide +kernel
theorem d_Model_acts_21 : decode b_Model_acts 21 = .ok (.iload_n 2, 1) := by decide +kernel
theorem d_Model_acts_22 : decode b_Model_acts 22 = .ok (.iaload, 1) := by decide +kernel
theorem d_Model_acts_23 : decode b_Model_acts 23 = .ok (.tableswitch 260 0 11 #[61, 71, 81, 91, 260, 100, 125, 134, 161, 190, 200, 209], 61) := by decide +kernel
theorem d_Model_acts_84 : decode b_Model_acts 84 = .ok (.aload_n 0, 1) := by decide +kernel
theorem d_Model_acts_85 : decode b_Model_acts 85 = .ok (.iload_n 1, 1) := by decide +kernel
theorem d_Model_acts_86 : decode b_Model_acts 86 = .ok (.iconst 1, 1) := by decide +kernel
theorem d_Model_acts_87 : decode b_Model_acts 87 = .ok (.iload_n 3, 1) := by decide +kernel
theorem d_Model_acts_88 : decode b_Model_acts 88 = .ok (.invokevirtual 153, 3) := by decide +kernel
theorem d_Model_acts_91 : decode b_Model_acts 91 = .ok (.goto 192, 3) := by decide +kernel
theorem d_Model_acts_94 : decode b_Model_acts 94 = .ok (.aload_n 0, 1) := by decide +kernel
theorem d_Model_acts_95 : decode b_Model_acts 95 = .ok (.iload_n 1, 1) := by decide +kernel
theorem d_Model_acts_96 : decode b_Model_acts 96 = .ok (.iconst 2, 1) := by decide +kernel
theorem d_Model_acts_97 : decode b_Model_acts 97 = .ok (.iload_n 3, 1) := by decide +kernel
theorem d_Model_acts_98 : decode b_Model_acts 98 = .ok (.invokevirtual 153, 3) := by decide +kernel
theorem d_Model_acts_101 : decode b_Model_acts 101 = .ok (.goto 182, 3) := by decide +kernel
theorem d_Model_acts_104 : decode b_Model_acts 104 = .ok (.aload_n 0, 1) := by decide +kernel
theorem d_Model_acts_105 : decode b_Model_acts 105 = .ok (.iload_n 1, 1) := by decide +kernel
theorem d_Model_acts_106 : decode b_Model_acts 106 = .ok (.iconst 3, 1) := by decide +kernel
theorem d_Model_acts_107 : decode b_Model_acts 107 = .ok (.iconst 0, 1) := by decide +kernel
theorem d_Model_acts_108 : decode b_Model_acts 108 = .ok (.invokevirtual 153, 3) := by decide +kernel
theorem d_Model_acts_111 : decode b_Model_acts 111 = .ok (.goto 172, 3) := by decide +kernel
theorem d_Model_acts_114 : decode b_Model_acts 114 = .ok (.aload_n 0, 1) := by decide +kernel
theorem d_Model_acts_115 : decode b_Model_acts 115 = .ok (.iload_n 1, 1) := by decide +kernel
theorem d_Model_acts_116 : decode b_Model_acts 116 = .ok (.iload_n 3, 1) := by decide +kernel
theorem d_Model_acts_117 : decode b_Model_acts 117 = .ok (.invokevirtual 138, 3) := by decide +kernel
theorem d_Model_acts_120 : decode b_Model_acts 120 = .ok (.goto 163, 3) := by decide +kernel
theorem d_Model_acts_123 : decode b_Model_acts 123 = .ok (.aload_n 0, 1) := by decide +kernel
theorem d_Model_acts_124 : decode b_Model_acts 124 = .ok (.getfield 131, 3) := by decide +kernel
theorem d_Model_acts_127 : decode b_Model_acts 127 = .ok (.bipush 40, 2) := by decide +kernel
theorem d_Model_acts_129 : decode b_Model_acts 129 = .ok (.if_icmp .ge 154, 3) := by decide +kernel
theorem d_Model_acts_132 : decode b_Model_acts 132 = .ok (.aload_n 0, 1) := by decide +kernel
theorem d_Model_acts_133 : decode b_Model_acts 133 = .ok (.aload_n 0, 1) := by decide +kernel
theorem d_Model_acts_134 : decode b_Model_acts 134 = .ok (.getfield 69, 3) := by decide +kernel
theorem d_Model_acts_137 : decode b_Model_acts 137 = .ok (.iload_n 1, 1) := by decide +kernel
theorem d_Model_acts_138 : decode b_Model_acts 138 = .ok (.iaload, 1) := by decide +kernel
theorem d_Model_acts_139 : decode b_Model_acts 139 = .ok (.iload_n 3, 1) := by decide +kernel
theorem d_Model_acts_140 : decode b_Model_acts 140 = .ok (.iload_n 1, 1) := by decide +kernel
theorem d_Model_acts_141 : decode b_Model_acts 141 = .ok (.invokevirtual 156, 3) := by decide +kernel
theorem d_Model_acts_144 : decode b_Model_acts 144 = .ok (.pop, 1) := by decide +kernel
theorem d_Model_acts_145 : decode b_Model_acts 145 = .ok (.goto 138, 3) := by decide +kernel
theorem d_Model_acts_148 : decode b_Model_acts 148 = .ok (.aload_n 0, 1) := by decide +kernel
theorem d_Model_acts_149 : decode b_Model_acts 149 = .ok (.iload_n 1, 1) := by decide +kernel
theorem d_Model_acts_150 : decode b_Model_acts 150 = .ok (.iload_n 3, 1) := by decide +kernel
theorem d_Model_acts_151 : decode b_Model_acts 151 = .ok (.invokevirtual 160, 3) := by decide +kernel
theorem d_Model_acts_154 : decode b_Model_acts 154 = .ok (.goto 129, 3) := by decide +kernel
theorem d_Model_acts_157 : decode b_Model_acts 157 = .ok (.aload_n 0, 1) := by decide +kernel
theorem d_Model_acts_158 : decode b_Model_acts 158 = .ok (.getfield 87, 3) := by decide +kernel
theorem d_Model_acts_161 : decode b_Model_acts 161 = .ok (.iload_n 1, 1) := by decide +kernel
theorem d_Model_acts_162 : decode b_Model_acts 162 = .ok (.baload, 1) := by decide +kernel
theorem d_Model_acts_163 : decode b_Model_acts 163 = .ok (.ifCond .ne 11, 3) := by decide +kernel
theorem d_Model_acts_166 : decode b_Model_acts 166 = .ok (.aload_n 0, 1) := by decide +kernel
theorem d_Model_acts_167 : decode b_Model_acts 167 = .ok (.iload_n 1, 1) := by decide +kernel
theorem d_Model_acts_168 : decode b_Model_acts 168 = .ok (.invokevirtual 143, 3) := by decide +kernel
theorem d_Model_acts_171 : decode b_Model_acts 171 = .ok (.ifCond .ne 112, 3) := by decide +kernel
theorem d_Model_acts_174 : decode b_Model_acts 174 = .ok (.aload_n 0, 1) := by decide +kernel
theorem d_Model_acts_175 : decode b_Model_acts 175 = .ok (.iload_n 1, 1) := by decide +kernel
theorem d_Model_acts_176 : decode b_Model_acts 176 = .ok (.iconst 4, 1) := by decide +kernel
theorem d_Model_acts_177 : decode b_Model_acts 177 = .ok (.iconst 0, 1) := by decide +kernel
theorem d_Model_acts_178 : decode b_Model_acts 178 = .ok (.invokevirtual 153, 3) := by decide +kernel
theorem d_Model_acts_181 : decode b_Model_acts 181 = .ok (.goto 102, 3) := by decide +kernel
theorem d_Model_acts_184 : decode b_Model_acts 184 = .ok (.aload_n 0, 1) := by decide +kernel
theorem d_Model_acts_185 : decode b_Model_acts 185 = .ok (.iload_n 1, 1) := by decide +kernel
theorem d_Model_acts_186 : decode b_Model_acts 186 = .ok (.aload_n 0, 1) := by decide +kernel
theorem d_Model_acts_187 : decode b_Model_acts 187 = .ok (.getfield 87, 3) := by decide +kernel
theorem d_Model_acts_190 : decode b_Model_acts 190 = .ok (.iload_n 1, 1) := by decide +kernel
theorem d_Model_acts_191 : decode b_Model_acts 191 = .ok (.baload, 1) := by decide +kernel
theorem d_Model_acts_192 : decode b_Model_acts 192 = .ok (.ifCond .eq 7, 3) := by decide +kernel
theorem d_Model_acts_195 : decode b_Model_acts 195 = .ok (.iconst 1, 1) := by decide +kernel
theorem d_Model_acts_196 : decode b_Model_acts 196 = .ok (.goto 4, 3) := by decide +kernel
theorem d_Model_acts_199 : decode b_Model_acts 199 = .ok (.iconst 0, 1) := by decide +kernel
theorem d_Model_acts_200 : decode b_Model_acts 200 = .ok (.invokevirtual 160, 3) := by decide +kernel
theorem d_Model_acts_203 : decode b_Model_acts 203 = .ok (.aload_n 0, 1) := by decide +kernel
theorem d_Model_acts_204 : decode b_Model_acts 204 = .ok (.getfield 87, 3) := by decide +kernel
theorem d_Model_acts_207 : decode b_Model_acts 207 = .ok (.iload_n 1, 1) := by decide +kernel
theorem d_Model_acts_208 : decode b_Model_acts 208 = .ok (.iconst 0, 1) := by decide +kernel
theorem d_Model_acts_209 : decode b_Model_acts 209 = .ok (.bastore, 1) := by decide +kernel
theorem d_Model_acts_210 : decode b_Model_acts 210 = .ok (.goto 73, 3) := by decide +kernel
theorem d_Model_acts_213 : decode b_Model_acts 213 = .ok (.aload_n 0, 1) := by decide +kernel
theorem d_Model_acts_214 : decode b_Model_acts 214 = .ok (.getfield 90, 3) := by decide +kernel
theorem d_Model_acts_217 : decode b_Model_acts 217 = .ok (.iload_n 1, 1) := by decide +kernel
theorem d_Model_acts_218 : decode b_Model_acts 218 = .ok (.iconst 1, 1) := by decide +kernel
theorem d_Model_acts_219 : decode b_Model_acts 219 = .ok (.bastore, 1) := by decide +kernel
theorem d_Model_acts_220 : decode b_Model_acts 220 = .ok (.goto 63, 3) := by decide +kernel
theorem d_Model_acts_223 : decode b_Model_acts 223 = .ok (.aload_n 0, 1) := by decide +kernel
theorem d_Model_acts_224 : decode b_Model_acts 224 = .ok (.iload_n 1, 1) := by decide +kernel
theorem d_Model_acts_225 : decode b_Model_acts 225 = .ok (.iconst (-1), 1) := by decide +kernel
theorem d_Model_acts_226 : decode b_Model_acts 226 = .ok (.invokevirtual 138, 3) := by decide +kernel
theorem d_Model_acts_229 : decode b_Model_acts 229 = .ok (.goto 54, 3) := by decide +kernel
theorem d_Model_acts_232 : decode b_Model_acts 232 = .ok (.iconst 0, 1) := by decide +kernel
theorem d_Model_acts_233 : decode b_Model_acts 233 = .ok (.istore 4, 2) := by decide +kernel
theorem d_Model_acts_235 : decode b_Model_acts 235 = .ok (.iload 4, 2) := by decide +kernel
theorem d_Model_acts_237 : decode b_Model_acts 237 = .ok (.aload_n 0, 1) := by decide +kernel
theorem d_Model_acts_238 : decode b_Model_acts 238 = .ok (.getfield 131, 3) := by decide +kernel
theorem d_Model_acts_241 : decode b_Model_acts 241 = .ok (.if_icmp .ge 39, 3) := by decide +kernel
theorem d_Model_acts_244 : decode b_Model_acts 244 = .ok (.aload_n 0, 1) := by decide +kernel
theorem d_Model_acts_245 : decode b_Model_acts 245 = .ok (.getfield 72, 3) := by decide +kernel
theorem d_Model_acts_248 : decode b_Model_acts 248 = .ok (.iload 4, 2) := by decide +kernel
theorem d_Model_acts_250 : decode b_Model_acts 250 = .ok (.iaload, 1) := by decide +kernel
theorem d_Model_acts_251 : decode b_Model_acts 251 = .ok (.iload_n 1, 1) := by decide +kernel
theorem d_Model_acts_252 : decode b_Model_acts 252 = .ok (.if_icmp .ne 22, 3) := by decide +kernel
theorem d_Model_acts_255 : decode b_Model_acts 255 = .ok (.aload_n 0, 1) := by decide +kernel
theorem d_Model_acts_256 : decode b_Model_acts 256 = .ok (.getfield 81, 3) := by decide +kernel
theorem d_Model_acts_259 : decode b_Model_acts 259 = .ok (.iload 4, 2) := by decide +kernel
theorem d_Model_acts_261 : decode b_Model_acts 261 = .ok (.iaload, 1) := by decide +kernel
theorem d_Model_acts_262 : decode b_Model_acts 262 = .ok (.iconst 5, 1) := by decide +kernel
theorem d_Model_acts_263 : decode b_Model_acts 263 = .ok (.if_icmp .eq 11, 3) := by decide +kernel
theorem d_Model_acts_266 : decode b_Model_acts 266 = .ok (.aload_n 0, 1) := by decide +kernel
theorem d_Model_acts_267 : decode b_Model_acts 267 = .ok (.getfield 87, 3) := by decide +kernel
theorem d_Model_acts_270 : decode b_Model_acts 270 = .ok (.iload 4, 2) := by decide +kernel
theorem d_Model_acts_272 : decode b_Model_acts 272 = .ok (.iconst 1, 1) := by decide +kernel
theorem d_Model_acts_273 : decode b_Model_acts 273 = .ok (.bastore, 1) := by decide +kernel
theorem d_Model_acts_274 : decode b_Model_acts 274 = .ok (.iinc 4 1, 3) := by decide +kernel
theorem d_Model_acts_277 : decode b_Model_acts 277 = .ok (.goto (-42), 3) := by decide +kernel
theorem d_Model_acts_280 : decode b_Model_acts 280 = .ok (.goto 3, 3) := by decide +kernel
theorem d_Model_acts_283 : decode b_Model_acts 283 = .ok (.return_, 1) := by decide +kernel
theorem d_Model_isFree_0 : decode b_Model_isFree 0 = .ok (.aload_n 0, 1) := by decide +kernel
theorem d_Model_isFree_1 : decode b_Model_isFree 1 = .ok (.getfield 66, 3) := by decide +kernel
theorem d_Model_isFree_4 : decode b_Model_isFree 4 = .ok (.iload_n 1, 1) := by decide +kernel
theorem d_Model_isFree_5 : decode b_Model_isFree 5 = .ok (.iaload, 1) := by decide +kernel
theorem d_Model_isFree_6 : decode b_Model_isFree 6 = .ok (.istore_n 2, 1) := by decide +kernel
theorem d_Model_isFree_7 : decode b_Model_isFree 7 = .ok (.iload_n 2, 1) := by decide +kernel
theorem d_Model_isFree_8 : decode b_Model_isFree 8 = .ok (.ifCond .lt 43, 3) := by decide +kernel
theorem d_Model_isFree_11 : decode b_Model_isFree 11 = .ok (.aload_n 0, 1) := by decide +kernel
theorem d_Model_isFree_12 : decode b_Model_isFree 12 = .ok (.getfield 81, 3) := by decide +kernel
theorem d_Model_isFree_15 : decode b_Model_isFree 15 = .ok (.aload_n 0, 1) := by decide +kernel
theorem d_Model_isFree_16 : decode b_Model_isFree 16 = .ok (.getfield 53, 3) := by decide +kernel
theorem d_Model_isFree_19 : decode b_Model_isFree 19 = .ok (.iload_n 2, 1) := by decide +kernel
theorem d_Model_isFree_20 : decode b_Model_isFree 20 = .ok (.iaload, 1) := by decide +kernel
theorem d_Model_isFree_21 : decode b_Model_isFree 21 = .ok (.iaload, 1) := by decide +kernel
theorem d_Model_isFree_22 : decode b_Model_isFree 22 = .ok (.iconst 5, 1) := by decide +kernel
theorem d_Model_isFree_23 : decode b_Model_isFree 23 = .ok (.if_icmp .eq 28, 3) := by decide +kernel
theorem d_Model_isFree_26 : decode b_Model_isFree 26 = .ok (.aload_n 0, 1) := by decide +kernel
theorem d_Model_isFree_27 : decode b_Model_isFree 27 = .ok (.getfield 38, 3) := by decide +kernel
theorem d_Model_isFree_30 : decode b_Model_isFree 30 = .ok (.iload_n 2, 1) := by decide +kernel
theorem d_Model_isFree_31 : decode b_Model_isFree 31 = .ok (.iaload, 1) := by decide +kernel
theorem d_Model_isFree_32 : decode b_Model_isFree 32 = .ok (.iconst 3, 1) := by decide +kernel
theorem d_Model_isFree_33 : decode b_Model_isFree 33 = .ok (.if_icmp .ne 22, 3) := by decide +kernel
theorem d_Model_isFree_36 : decode b_Model_isFree 36 = .ok (.aload_n 0, 1) := by decide +kernel
theorem d_Model_isFree_37 : decode b_Model_isFree 37 = .ok (.getfield 117, 3) := by decide +kernel
theorem d_Model_isFree_40 : decode b_Model_isFree 40 = .ok (.aload_n 0, 1) := by decide +kernel
theorem d_Model_isFree_41 : decode b_Model_isFree 41 = .ok (.getfield 47, 3) := by decide +kernel
theorem d_Model_isFree_44 : decode b_Model_isFree 44 = .ok (.iload_n 2, 1) := by decide +kernel
theorem d_Model_isFree_45 : decode b_Model_isFree 45 = .ok (.iaload, 1) := by decide +kernel
theorem d_Model_isFree_46 : decode b_Model_isFree 46 = .ok (.iconst 3, 1) := by decide +kernel
theorem d_Model_isFree_47 : decode b_Model_isFree 47 = .ok (.iadd, 1) := by decide +kernel
theorem d_Model_isFree_48 : decode b_Model_isFree 48 = .ok (.if_icmp .lt 7, 3) := by decide +kernel
theorem d_Model_isFree_51 : decode b_Model_isFree 51 = .ok (.iconst 1, 1) := by decide +kernel
theorem d_Model_isFree_52 : decode b_Model_isFree 52 = .ok (.goto 4, 3) := by decide +kernel
theorem d_Model_isFree_55 : decode b_Model_isFree 55 = .ok (.iconst 0, 1) := by decide +kernel
theorem d_Model_isFree_56 : decode b_Model_isFree 56 = .ok (.ireturn, 1) := by decide +kernel
theorem d_Model_canHave_0 : decode b_Model_canHave 0 = .ok (.iconst 0, 1) := by decide +kernel
theorem d_Model_canHave_1 : decode b_Model_canHave 1 = .ok (.istore_n 2, 1) := by decide +kernel
theorem d_Model_canHave_2 : decode b_Model_canHave 2 = .ok (.iload_n 2, 1) := by decide +kernel
theorem d_Model_canHave_3 : decode b_Model_canHave 3 = .ok (.aload_n 0, 1) := by decide +kernel
theorem d_Model_canHave_4 : decode b_Model_canHave 4 = .ok (.getfield 114, 3) := by decide +kernel
theorem d_Model_canHave_7 : decode b_Model_canHave 7 = .ok (.if_icmp .ge 71, 3) := by decide +kernel
theorem d_Model_canHave_10 : decode b_Model_canHave 10 = .ok (.aload_n 0, 1) := by decide +kernel
theorem d_Model_canHave_11 : decode b_Model_canHave 11 = .ok (.getfield 44, 3) := by decide +kernel
theorem d_Model_canHave_14 : decode b_Model_canHave 14 = .ok (.iload_n 2, 1) := by decide +kernel
theorem d_Model_canHave_15 : decode b_Model_canHave 15 = .ok (.iaload, 1) := by decide +kernel
theorem d_Model_canHave_16 : decode b_Model_canHave 16 = .ok (.ifCond .lt 56, 3) := by decide +kernel
theorem d_Model_canHave_19 : decode b_Model_canHave 19 = .ok (.aload_n 0, 1) := by decide +kernel
theorem d_Model_canHave_20 : decode b_Model_canHave 20 = .ok (.getfield 38, 3) := by decide +kernel
theorem d_Model_canHave_23 : decode b_Model_canHave 23 = .ok (.iload_n 2, 1) := by decide +kernel
theorem d_Model_canHave_24 : decode b_Model_canHave 24 = .ok (.iaload, 1) := by decide +kernel
theorem d_Model_canHave_25 : decode b_Model_canHave 25 = .ok (.ifCond .eq 6, 3) := by decide +kernel
theorem d_Model_canHave_28 : decode b_Model_canHave 28 = .ok (.goto 44, 3) := by decide +kernel
theorem d_Model_canHave_31 : decode b_Model_canHave 31 = .ok (.aload_n 0, 1) := by decide +kernel
theorem d_Model_canHave_32 : decode b_Model_canHave 32 = .ok (.getfield 35, 3) := by decide +kernel
theorem d_Model_canHave_35 : decode b_Model_canHave 35 = .ok (.iload_n 1, 1) := by decide +kernel
theorem d_Model_canHave_36 : decode b_Model_canHave 36 = .ok (.iaload, 1) := by decide +kernel
theorem d_Model_canHave_37 : decode b_Model_canHave 37 = .ok (.aload_n 0, 1) := by decide +kernel
theorem d_Model_canHave_38 : decode b_Model_canHave 38 = .ok (.getfield 32, 3) := by decide +kernel
theorem d_Model_canHave_41 : decode b_Model_canHave 41 = .ok (.iload_n 2, 1) := by decide +kernel
theorem d_Model_canHave_42 : decode b_Model_canHave 42 = .ok (.iaload, 1) := by decide +kernel
theorem d_Model_canHave_43 : decode b_Model_canHave 43 = .ok (.aload_n 0, 1) := by decide +kernel
theorem d_Model_canHave_44 : decode b_Model_canHave 44 = .ok (.getfield 35, 3) := by decide +kernel
theorem d_Model_canHave_47 : decode b_Model_canHave 47 = .ok (.iload_n 2, 1) := by decide +kernel
theorem d_Model_canHave_48 : decode b_Model_canHave 48 = .ok (.iaload, 1) := by decide +kernel
theorem d_Model_canHave_49 : decode b_Model_canHave 49 = .ok (.ior, 1) := by decide +kernel
theorem d_Model_canHave_50 : decode b_Model_canHave 50 = .ok (.iand, 1) := by decide +kernel
theorem d_Model_canHave_51 : decode b_Model_canHave 51 = .ok (.ifCond .ne 19, 3) := by decide +kernel
theorem d_Model_canHave_54 : decode b_Model_canHave 54 = .ok (.aload_n 0, 1) := by decide +kernel
theorem d_Model_canHave_55 : decode b_Model_canHave 55 = .ok (.getfield 32, 3) := by decide +kernel
theorem d_Model_canHave_58 : decode b_Model_canHave 58 = .ok (.iload_n 1, 1) := by decide +kernel
theorem d_Model_canHave_59 : decode b_Model_canHave 59 = .ok (.iaload, 1) := by decide +kernel
theorem d_Model_canHave_60 : decode b_Model_canHave 60 = .ok (.aload_n 0, 1) := by decide +kernel
theorem d_Model_canHave_61 : decode b_Model_canHave 61 = .ok (.getfield 35, 3) := by decide +kernel
theorem d_Model_canHave_64 : decode b_Model_canHave 64 = .ok (.iload_n 2, 1) := by decide +kernel
theorem d_Model_canHave_65 : decode b_Model_canHave 65 = .ok (.iaload, 1) := by decide +kernel
theorem d_Model_canHave_66 : decode b_Model_canHave 66 = .ok (.iand, 1) := by decide +kernel
theorem d_Model_canHave_67 : decode b_Model_canHave 67 = .ok (.ifCond .eq 5, 3) := by decide +kernel
theorem d_Model_canHave_70 : decode b_Model_canHave 70 = .ok (.iconst 0, 1) := by decide +kernel
theorem d_Model_canHave_71 : decode b_Model_canHave 71 = .ok (.ireturn, 1) := by decide +kernel
theorem d_Model_canHave_72 : decode b_Model_canHave 72 = .ok (.iinc 2 1, 3) := by decide +kernel
theorem d_Model_canHave_75 : decode b_Model_canHave 75 = .ok (.goto (-73), 3) := by decide +kernel
theorem d_Model_canHave_78 : decode b_Model_canHave 78 = .ok (.iconst 1, 1) := by decide +kernel
theorem d_Model_canHave_79 : decode b_Model_canHave 79 = .ok (.ireturn, 1) := by decide +kernel
theorem d_Model_nextTest_0 : decode b_Model_nextTest 0 = .ok (.iconst 0, 1) := by decide +kernel
theorem d_Model_nextTest_1 : decode b_Model_nextTest 1 = .ok (.istore_n 1, 1) := by decide +kernel
theorem d_Model_nextTest_2 : decode b_Model_nextTest 2 = .ok (.iload_n 1, 1) := by decide +kernel
theorem d_Model_nextTest_3 : decode b_Model_nextTest 3 = .ok (.aload_n 0, 1) := by decide +kernel
theorem d_Model_nextTest_4 : decode b_Model_nextTest 4 = .ok (.getfield 114, 3) := by decide +kernel
theorem d_Model_nextTest_7 : decode b_Model_nextTest 7 = .ok (.if_icmp .ge 28, 3) := by decide +kernel
theorem d_Model_nextTest_10 : decode b_Model_nextTest 10 = .ok (.aload_n 0, 1) := by decide +kernel
theorem d_Model_nextTest_11 : decode b_Model_nextTest 11 = .ok (.getfield 44, 3) := by decide +kernel
theorem d_Model_nextTest_14 : decode b_Model_nextTest 14 = .ok (.iload_n 1, 1) := by decide +kernel
theorem d_Model_nextTest_15 : decode b_Model_nextTest 15 = .ok (.iaload, 1) := by decide +kernel
theorem d_Model_nextTest_16 : decode b_Model_nextTest 16 = .ok (.ifCond .ge 13, 3) := by decide +kernel
theorem d_Model_nextTest_19 : decode b_Model_nextTest 19 = .ok (.aload_n 0, 1) := by decide +kernel
theorem d_Model_nextTest_20 : decode b_Model_nextTest 20 = .ok (.iload_n 1, 1) := by decide +kernel
theorem d_Model_nextTest_21 : decode b_Model_nextTest 21 = .ok (.invokevirtual 163, 3) := by decide +kernel
theorem d_Model_nextTest_24 : decode b_Model_nextTest 24 = .ok (.ifCond .eq 5, 3) := by decide +kernel
theorem d_Model_nextTest_27 : decode b_Model_nextTest 27 = .ok (.iload_n 1, 1) := by decide +kernel
theorem d_Model_nextTest_28 : decode b_Model_nextTest 28 = .ok (.ireturn, 1) := by decide +kernel
theorem d_Model_nextTest_29 : decode b_Model_nextTest 29 = .ok (.iinc 1 1, 3) := by decide +kernel
theorem d_Model_nextTest_32 : decode b_Model_nextTest 32 = .ok (.goto (-30), 3) := by decide +kernel
theorem d_Model_nextTest_35 : decode b_Model_nextTest 35 = .ok (.iconst (-1), 1) := by decide +kernel
theorem d_Model_nextTest_36 : decode b_Model_nextTest 36 = .ok (.ireturn, 1) := by decide +kernel
theorem d_Model_looksAtTimes_0 : decode b_Model_looksAtTimes 0 = .ok (.iconst 0, 1) := by decide +kernel
theorem d_Model_looksAtTimes_1 : decode b_Model_looksAtTimes 1 = .ok (.istore_n 1, 1) := by decide +kernel
theorem d_Model_looksAtTimes_2 : decode b_Model_looksAtTimes 2 = .ok (.iload_n 1, 1) := by decide +kernel
theorem d_Model_looksAtTimes_3 : decode b_Model_looksAtTimes 3 = .ok (.aload_n 0, 1) := by decide +kernel
theorem d_Model_looksAtTimes_4 : decode b_Model_looksAtTimes 4 = .ok (.getfield 114, 3) := by decide +kernel
theorem d_Model_looksAtTimes_7 : decode b_Model_looksAtTimes 7 = .ok (.if_icmp .ge 75, 3) := by decide +kernel
theorem d_Model_looksAtTimes_10 : decode b_Model_looksAtTimes 10 = .ok (.aload_n 0, 1) := by decide +kernel
theorem d_Model_looksAtTimes_11 : decode b_Model_looksAtTimes 11 = .ok (.getfield 44, 3) := by decide +kernel
theorem d_Model_looksAtTimes_14 : decode b_Model_looksAtTimes 14 = .ok (.iload_n 1, 1) := by decide +kernel
theorem d_Model_looksAtTimes_15 : decode b_Model_looksAtTimes 15 = .ok (.iaload, 1) := by decide +kernel
theorem d_Model_looksAtTimes_16 : decode b_Model_looksAtTimes 16 = .ok (.ifCond .lt 60, 3) := by decide +kernel
theorem d_Model_looksAtTimes_19 : decode b_Model_looksAtTimes 19 = .ok (.aload_n 0, 1) := by decide +kernel
theorem d_Model_looksAtTimes_20 : decode b_Model_looksAtTimes 20 = .ok (.getfield 38, 3) := by decide +kernel
theorem d_Model_looksAtTimes_23 : decode b_Model_looksAtTimes 23 = .ok (.iload_n 1, 1) := by decide +kernel
theorem d_Model_looksAtTimes_24 : decode b_Model_looksAtTimes 24 = .ok (.iaload, 1) := by decide +kernel
theorem d_Model_looksAtTimes_25 : decode b_Model_looksAtTimes 25 = .ok (.ifCond .ne 51, 3) := by decide +kernel
theorem d_Model_looksAtTimes_28 : decode b_Model_looksAtTimes 28 = .ok (.aload_n 0, 1) := by decide +kernel
theorem d_Model_looksAtTimes_29 : decode b_Model_looksAtTimes 29 = .ok (.getfield 29, 3) := by decide +kernel
theorem d_Model_looksAtTimes_32 : decode b_Model_looksAtTimes 32 = .ok (.iload_n 1, 1) := by decide +kernel
theorem d_Model_looksAtTimes_33 : decode b_Model_looksAtTimes 33 = .ok (.iaload, 1) := by decide +kernel
theorem d_Model_looksAtTimes_34 : decode b_Model_looksAtTimes 34 = .ok (.ifCond .le 42, 3) := by decide +kernel
theorem d_Model_looksAtTimes_37 : decode b_Model_looksAtTimes 37 = .ok (.aload_n 0, 1) := by decide +kernel
theorem d_Model_looksAtTimes_38 : decode b_Model_looksAtTimes 38 = .ok (.getfield 117, 3) := by decide +kernel
theorem d_Model_looksAtTimes_41 : decode b_Model_looksAtTimes 41 = .ok (.aload_n 0, 1) := by decide +kernel
theorem d_Model_looksAtTimes_42 : decode b_Model_looksAtTimes 42 = .ok (.getfield 44, 3) := by decide +kernel
theorem d_Model_looksAtTimes_45 : decode b_Model_looksAtTimes 45 = .ok (.iload_n 1, 1) := by decide +kernel
theorem d_Model_looksAtTimes_46 : decode b_Model_looksAtTimes 46 = .ok (.iaload, 1) := by decide +kernel
theorem d_Model_looksAtTimes_47 : decode b_Model_looksAtTimes 47 = .ok (.aload_n 0, 1) := by decide +kernel
theorem d_Model_looksAtTimes_48 : decode b_Model_looksAtTimes 48 = .ok (.getfield 29, 3) := by decide +kernel
theorem d_Model_looksAtTimes_51 : decode b_Model_looksAtTimes 51 = .ok (.iload_n 1, 1) := by decide +kernel
theorem d_Model_looksAtTimes_52 : decode b_Model_looksAtTimes 52 = .ok (.iaload, 1) := by decide +kernel
theorem d_Model_looksAtTimes_53 : decode b_Model_looksAtTimes 53 = .ok (.iadd, 1) := by decide +kernel
theorem d_Model_looksAtTimes_54 : decode b_Model_looksAtTimes 54 = .ok (.if_icmp .lt 22, 3) := by decide +kernel
theorem d_Model_looksAtTimes_57 : decode b_Model_looksAtTimes 57 = .ok (.aload_n 0, 1) := by decide +kernel
theorem d_Model_looksAtTimes_58 : decode b_Model_looksAtTimes 58 = .ok (.iload_n 1, 1) := by decide +kernel
theorem d_Model_looksAtTimes_59 : decode b_Model_looksAtTimes 59 = .ok (.iconst 3, 1) := by decide +kernel
theorem d_Model_looksAtTimes_60 : decode b_Model_looksAtTimes 60 = .ok (.iconst (-1), 1) := by decide +kernel
theorem d_Model_looksAtTimes_61 : decode b_Model_looksAtTimes 61 = .ok (.invokevirtual 127, 3) := by decide +kernel
theorem d_Model_looksAtTimes_64 : decode b_Model_looksAtTimes 64 = .ok (.aload_n 0, 1) := by decide +kernel
theorem d_Model_looksAtTimes_65 : decode b_Model_looksAtTimes 65 = .ok (.getfield 87, 3) := by decide +kernel
theorem d_Model_looksAtTimes_68 : decode b_Model_looksAtTimes 68 = .ok (.aload_n 0, 1) := by decide +kernel
theorem d_Model_looksAtTimes_69 : decode b_Model_looksAtTimes 69 = .ok (.getfield 53, 3) := by decide +kernel
theorem d_Model_looksAtTimes_72 : decode b_Model_looksAtTimes 72 = .ok (.iload_n 1, 1) := by decide +kernel
theorem d_Model_looksAtTimes_73 : decode b_Model_looksAtTimes 73 = .ok (.iaload, 1) := by decide +kernel
theorem d_Model_looksAtTimes_74 : decode b_Model_looksAtTimes 74 = .ok (.iconst 1, 1) := by decide +kernel
theorem d_Model_looksAtTimes_75 : decode b_Model_looksAtTimes 75 = .ok (.bastore, 1) := by decide +kernel
theorem d_Model_looksAtTimes_76 : decode b_Model_looksAtTimes 76 = .ok (.iinc 1 1, 3) := by decide +kernel
theorem d_Model_looksAtTimes_79 : decode b_Model_looksAtTimes 79 = .ok (.goto (-77), 3) := by decide +kernel
theorem d_Model_looksAtTimes_82 : decode b_Model_looksAtTimes 82 = .ok (.return_, 1) := by decide +kernel
theorem d_Model_begins_0 : decode b_Model_begins 0 = .ok (.iconst 0, 1) := by decide +kernel
theorem d_Model_begins_1 : decode b_Model_begins 1 = .ok (.istore_n 1, 1) := by decide +kernel
theorem d_Model_begins_2 : decode b_Model_begins 2 = .ok (.iload_n 1, 1) := by decide +kernel
theorem d_Model_begins_3 : decode b_Model_begins 3 = .ok (.aload_n 0, 1) := by decide +kernel
theorem d_Model_begins_4 : decode b_Model_begins 4 = .ok (.getfield 7, 3) := by decide +kernel
theorem d_Model_begins_7 : decode b_Model_begins 7 = .ok (.if_icmp .ge 50, 3) := by decide +kernel
theorem d_Model_begins_10 : decode b_Model_begins 10 = .ok (.aload_n 0, 1) := by decide +kernel
theorem d_Model_begins_11 : decode b_Model_begins 11 = .ok (.getfield 66, 3) := by decide +kernel
theorem d_Model_begins_14 : decode b_Model_begins 14 = .ok (.iload_n 1, 1) := by decide +kernel
theorem d_Model_begins_15 : decode b_Model_begins 15 = .ok (.iaload, 1) := by decide +kernel
theorem d_Model_begins_16 : decode b_Model_begins 16 = .ok (.istore_n 2, 1) := by decide +kernel
theorem d_Model_begins_17 : decode b_Model_begins 17 = .ok (.iload_n 2, 1) := by decide +kernel
theorem d_Model_begins_18 : decode b_Model_begins 18 = .ok (.ifCond .lt 33, 3) := by decide +kernel
theorem d_Model_begins_21 : decode b_Model_begins 21 = .ok (.aload_n 0, 1) := by decide +kernel
theorem d_Model_begins_22 : decode b_Model_begins 22 = .ok (.iload_n 1, 1) := by decide +kernel
theorem d_Model_begins_23 : decode b_Model_begins 23 = .ok (.invokevirtual 166, 3) := by decide +kernel
theorem d_Model_begins_26 : decode b_Model_begins 26 = .ok (.ifCond .eq 25, 3) := by decide +kernel
theorem d_Model_begins_29 : decode b_Model_begins 29 = .ok (.aload_n 0, 1) := by decide +kernel
theorem d_Model_begins_30 : decode b_Model_begins 30 = .ok (.getfield 81, 3) := by decide +kernel
theorem d_Model_begins_33 : decode b_Model_begins 33 = .ok (.aload_n 0, 1) := by decide +kernel
theorem d_Model_begins_34 : decode b_Model_begins 34 = .ok (.getfield 53, 3) := by decide +kernel
theorem d_Model_begins_37 : decode b_Model_begins 37 = .ok (.iload_n 2, 1) := by decide +kernel
theorem d_Model_begins_38 : decode b_Model_begins 38 = .ok (.iaload, 1) := by decide +kernel
theorem d_Model_begins_39 : decode b_Model_begins 39 = .ok (.iaload, 1) := by decide +kernel
theorem d_Model_begins_40 : decode b_Model_begins 40 = .ok (.iconst 5, 1) := by decide +kernel
theorem d_Model_begins_41 : decode b_Model_begins 41 = .ok (.if_icmp .eq 10, 3) := by decide +kernel
theorem d_Model_begins_44 : decode b_Model_begins 44 = .ok (.aload_n 0, 1) := by decide +kernel
theorem d_Model_begins_45 : decode b_Model_begins 45 = .ok (.getfield 62, 3) := by decide +kernel
theorem d_Model_begins_48 : decode b_Model_begins 48 = .ok (.iload_n 2, 1) := by decide +kernel
theorem d_Model_begins_49 : decode b_Model_begins 49 = .ok (.iconst 1, 1) := by decide +kernel
theorem d_Model_begins_50 : decode b_Model_begins 50 = .ok (.bastore, 1) := by decide +kernel
theorem d_Model_begins_51 : decode b_Model_begins 51 = .ok (.iinc 1 1, 3) := by decide +kernel
theorem d_Model_begins_54 : decode b_Model_begins 54 = .ok (.goto (-52), 3) := by decide +kernel
theorem d_Model_begins_57 : decode b_Model_begins 57 = .ok (.iconst 1, 1) := by decide +kernel
theorem d_Model_begins_58 : decode b_Model_begins 58 = .ok (.istore_n 1, 1) := by decide +kernel
theorem d_Model_begins_59 : decode b_Model_begins 59 = .ok (.iload_n 1, 1) := by decide +kernel
theorem d_Model_begins_60 : decode b_Model_begins 60 = .ok (.ifCond .eq 113, 3) := by decide +kernel
theorem d_Model_begins_63 : decode b_Model_begins 63 = .ok (.iconst 0, 1) := by decide +kernel
theorem d_Model_begins_64 : decode b_Model_begins 64 = .ok (.istore_n 2, 1) := by decide +kernel
theorem d_Model_begins_65 : decode b_Model_begins 65 = .ok (.iload_n 2, 1) := by decide +kernel
theorem d_Model_begins_66 : decode b_Model_begins 66 = .ok (.aload_n 0, 1) := by decide +kernel
theorem d_Model_begins_67 : decode b_Model_begins 67 = .ok (.getfield 7, 3) := by decide +kernel
theorem d_Model_begins_70 : decode b_Model_begins 70 = .ok (.if_icmp .ge 17, 3) := by decide +kernel
theorem d_Model_begins_73 : decode b_Model_begins 73 = .ok (.aload_n 0, 1) := by decide +kernel
theorem d_Model_begins_74 : decode b_Model_begins 74 = .ok (.iload_n 2, 1) := by decide +kernel
theorem d_Model_begins_75 : decode b_Model_begins 75 = .ok (.invokevirtual 166, 3) := by decide +kernel
theorem d_Model_begins_78 : decode b_Model_begins 78 = .ok (.ifCond .ne 9, 3) := by decide +kernel
theorem d_Model_begins_81 : decode b_Model_begins 81 = .ok (.iinc 2 1, 3) := by decide +kernel
theorem d_Model_begins_84 : decode b_Model_begins 84 = .ok (.goto (-19), 3) := by decide +kernel
theorem d_Model_begins_87 : decode b_Model_begins 87 = .ok (.iload_n 2, 1) := by decide +kernel
theorem d_Model_begins_88 : decode b_Model_begins 88 = .ok (.aload_n 0, 1) := by decide +kernel
theorem d_Model_begins_89 : decode b_Model_begins 89 = .ok (.getfield 7, 3) := by decide +kernel
theorem d_Model_begins_92 : decode b_Model_begins 92 = .ok (.if_icmp .ge 10, 3) := by decide +kernel
theorem d_Model_begins_95 : decode b_Model_begins 95 = .ok (.aload_n 0, 1) := by decide +kernel
theorem d_Model_begins_96 : decode b_Model_begins 96 = .ok (.invokevirtual 169, 3) := by decide +kernel
theorem d_Model_begins_99 : decode b_Model_begins 99 = .ok (.goto 4, 3) := by decide +kernel
theorem d_Model_begins_102 : decode b_Model_begins 102 = .ok (.iconst (-1), 1) := by decide +kernel
theorem d_Model_begins_103 : decode b_Model_begins 103 = .ok (.istore_n 3, 1) := by decide +kernel
theorem d_Model_begins_104 : decode b_Model_begins 104 = .ok (.iload_n 3, 1) := by decide +kernel
theorem d_Model_begins_105 : decode b_Model_begins 105 = .ok (.ifCond .lt 7, 3) := by decide +kernel
theorem d_Model_begins_108 : decode b_Model_begins 108 = .ok (.iconst 1, 1) := by decide +kernel
theorem d_Model_begins_109 : decode b_Model_begins 109 = .ok (.goto 4, 3) := by decide +kernel
theorem d_Model_begins_112 : decode b_Model_begins 112 = .ok (.iconst 0, 1) := by decide +kernel
theorem d_Model_begins_113 : decode b_Model_begins 113 = .ok (.istore_n 1, 1) := by decide +kernel
theorem d_Model_begins_114 : decode b_Model_begins 114 = .ok (.iload_n 1, 1) := by decide +kernel
theorem d_Model_begins_115 : decode b_Model_begins 115 = .ok (.ifCond .ne 6, 3) := by decide +kernel
theorem d_Model_begins_118 : decode b_Model_begins 118 = .ok (.goto 55, 3) := by decide +kernel
theorem d_Model_begins_121 : decode b_Model_begins 121 = .ok (.aload_n 0, 1) := by decide +kernel
theorem d_Model_begins_122 : decode b_Model_begins 122 = .ok (.getfield 66, 3) := by decide +kernel
theorem d_Model_begins_125 : decode b_Model_begins 125 = .ok (.iload_n 2, 1) := by decide +kernel
theorem d_Model_begins_126 : decode b_Model_begins 126 = .ok (.iload_n 3, 1) := by decide +kernel
theorem d_Model_begins_127 : decode b_Model_begins 127 = .ok (.iastore, 1) := by decide +kernel
theorem d_Model_begins_128 : decode b_Model_begins 128 = .ok (.aload_n 0, 1) := by decide +kernel
theorem d_Model_begins_129 : decode b_Model_begins 129 = .ok (.getfield 50, 3) := by decide +kernel
theorem d_Model_begins_132 : decode b_Model_begins 132 = .ok (.iload_n 3, 1) := by decide +kernel
theorem d_Model_begins_133 : decode b_Model_begins 133 = .ok (.iload_n 2, 1) := by decide +kernel
theorem d_Model_begins_134 : decode b_Model_begins 134 = .ok (.iastore, 1) := by decide +kernel
theorem d_Model_begins_135 : decode b_Model_begins 135 = .ok (.aload_n 0, 1) := by decide +kernel
theorem d_Model_begins_136 : decode b_Model_begins 136 = .ok (.getfield 44, 3) := by decide +kernel
theorem d_Model_begins_139 : decode b_Model_begins 139 = .ok (.iload_n 3, 1) := by decide +kernel
theorem d_Model_begins_140 : decode b_Model_begins 140 = .ok (.aload_n 0, 1) := by decide +kernel
theorem d_Model_begins_141 : decode b_Model_begins 141 = .ok (.getfield 117, 3) := by decide +kernel
theorem d_Model_begins_144 : decode b_Model_begins 144 = .ok (.iastore, 1) := by decide +kernel
theorem d_Model_begins_145 : decode b_Model_begins 145 = .ok (.aload_n 0, 1) := by decide +kernel
theorem d_Model_begins_146 : decode b_Model_begins 146 = .ok (.getfield 56, 3) := by decide +kernel
theorem d_Model_begins_149 : decode b_Model_begins 149 = .ok (.iload_n 3, 1) := by decide +kernel
theorem d_Model_begins_150 : decode b_Model_begins 150 = .ok (.iconst (-1), 1) := by decide +kernel
theorem d_Model_begins_151 : decode b_Model_begins 151 = .ok (.iastore, 1) := by decide +kernel
theorem d_Model_begins_152 : decode b_Model_begins 152 = .ok (.aload_n 0, 1) := by decide +kernel
theorem d_Model_begins_153 : decode b_Model_begins 153 = .ok (.getfield 53, 3) := by decide +kernel
theorem d_Model_begins_156 : decode b_Model_begins 156 = .ok (.iload_n 3, 1) := by decide +kernel
theorem d_Model_begins_157 : decode b_Model_begins 157 = .ok (.aload_n 0, 1) := by decide +kernel
theorem d_Model_begins_158 : decode b_Model_begins 158 = .ok (.iload_n 3, 1) := by decide +kernel
theorem d_Model_begins_159 : decode b_Model_begins 159 = .ok (.aload_n 0, 1) := by decide +kernel
theorem d_Model_begins_160 : decode b_Model_begins 160 = .ok (.getfield 26, 3) := by decide +kernel
theorem d_Model_begins_163 : decode b_Model_begins 163 = .ok (.iload_n 3, 1) := by decide +kernel
theorem d_Model_begins_164 : decode b_Model_begins 164 = .ok (.iaload, 1) := by decide +kernel
theorem d_Model_begins_165 : decode b_Model_begins 165 = .ok (.iconst (-1), 1) := by decide +kernel
theorem d_Model_begins_166 : decode b_Model_begins 166 = .ok (.invokevirtual 156, 3) := by decide +kernel
theorem d_Model_begins_169 : decode b_Model_begins 169 = .ok (.iastore, 1) := by decide +kernel
theorem d_Model_begins_170 : decode b_Model_begins 170 = .ok (.goto (-111), 3) := by decide +kernel
theorem d_Model_begins_173 : decode b_Model_begins 173 = .ok (.iconst 0, 1) := by decide +kernel
theorem d_Model_begins_174 : decode b_Model_begins 174 = .ok (.istore_n 2, 1) := by decide +kernel
theorem d_Model_begins_175 : decode b_Model_begins 175 = .ok (.iconst 0, 1) := by decide +kernel
theorem d_Model_begins_176 : decode b_Model_begins 176 = .ok (.istore_n 3, 1) := by decide +kernel
theorem d_Model_begins_177 : decode b_Model_begins 177 = .ok (.iload_n 3, 1) := by decide +kernel
theorem d_Model_begins_178 : decode b_Model_begins 178 = .ok (.aload_n 0, 1) := by decide +kernel
theorem d_Model_begins_179 : decode b_Model_begins 179 = .ok (.getfield 114, 3) := by decide +kernel
theorem d_Model_begins_182 : decode b_Model_begins 182 = .ok (.if_icmp .ge 30, 3) := by decide +kernel
theorem d_Model_begins_185 : decode b_Model_begins 185 = .ok (.aload_n 0, 1) := by decide +kernel
theorem d_Model_begins_186 : decode b_Model_begins 186 = .ok (.getfield 44, 3) := by decide +kernel
theorem d_Model_begins_189 : decode b_Model_begins 189 = .ok (.iload_n 3, 1) := by decide +kernel
theorem d_Model_begins_190 : decode b_Model_begins 190 = .ok (.iaload, 1) := by decide +kernel
theorem d_Model_begins_191 : decode b_Model_begins 191 = .ok (.ifCond .lt 15, 3) := by decide +kernel
theorem d_Model_begins_194 : decode b_Model_begins 194 = .ok (.aload_n 0, 1) := by decide +kernel
theorem d_Model_begins_195 : decode b_Model_begins 195 = .ok (.getfield 38, 3) := by decide +kernel
theorem d_Model_begins_198 : decode b_Model_begins 198 = .ok (.iload_n 3, 1) := by decide +kernel
theorem d_Model_begins_199 : decode b_Model_begins 199 = .ok (.iaload, 1) := by decide +kernel
theorem d_Model_begins_200 : decode b_Model_begins 200 = .ok (.ifCond .ne 6, 3) := by decide +kernel
theorem d_Model_begins_203 : decode b_Model_begins 203 = .ok (.iinc 2 1, 3) := by decide +kernel
theorem d_Model_begins_206 : decode b_Model_begins 206 = .ok (.iinc 3 1, 3) := by decide +kernel
theorem d_Model_begins_209 : decode b_Model_begins 209 = .ok (.goto (-32), 3) := by decide +kernel
theorem d_Model_begins_212 : decode b_Model_begins 212 = .ok (.aload_n 0, 1) := by decide +kernel
theorem d_Model_begins_213 : decode b_Model_begins 213 = .ok (.iload_n 2, 1) := by decide +kernel
theorem d_Model_begins_214 : decode b_Model_begins 214 = .ok (.aload_n 0, 1) := by decide +kernel
theorem d_Model_begins_215 : decode b_Model_begins 215 = .ok (.getfield 173, 3) := by decide +kernel
theorem d_Model_begins_218 : decode b_Model_begins 218 = .ok (.if_icmp .le 7, 3) := by decide +kernel
theorem d_Model_begins_221 : decode b_Model_begins 221 = .ok (.iload_n 2, 1) := by decide +kernel
theorem d_Model_begins_222 : decode b_Model_begins 222 = .ok (.goto 7, 3) := by decide +kernel
theorem d_Model_begins_225 : decode b_Model_begins 225 = .ok (.aload_n 0, 1) := by decide +kernel
theorem d_Model_begins_226 : decode b_Model_begins 226 = .ok (.getfield 173, 3) := by decide +kernel
theorem d_Model_begins_229 : decode b_Model_begins 229 = .ok (.putfield 173, 3) := by decide +kernel
theorem d_Model_begins_232 : decode b_Model_begins 232 = .ok (.return_, 1) := by decide +kernel
theorem d_Model_isDone_0 : decode b_Model_isDone 0 = .ok (.iconst 0, 1) := by decide +kernel
theorem d_Model_isDone_1 : decode b_Model_isDone 1 = .ok (.istore_n 1, 1) := by decide +kernel
theorem d_Model_isDone_2 : decode b_Model_isDone 2 = .ok (.iload_n 1, 1) := by decide +kernel
theorem d_Model_isDone_3 : decode b_Model_isDone 3 = .ok (.aload_n 0, 1) := by decide +kernel
theorem d_Model_isDone_4 : decode b_Model_isDone 4 = .ok (.getfield 114, 3) := by decide +kernel
theorem d_Model_isDone_7 : decode b_Model_isDone 7 = .ok (.if_icmp .ge 20, 3) := by decide +kernel
theorem d_Model_isDone_10 : decode b_Model_isDone 10 = .ok (.aload_n 0, 1) := by decide +kernel
theorem d_Model_isDone_11 : decode b_Model_isDone 11 = .ok (.getfield 38, 3) := by decide +kernel
theorem d_Model_isDone_14 : decode b_Model_isDone 14 = .ok (.iload_n 1, 1) := by decide +kernel
theorem d_Model_isDone_15 : decode b_Model_isDone 15 = .ok (.iaload, 1) := by decide +kernel
theorem d_Model_isDone_16 : decode b_Model_isDone 16 = .ok (.ifCond .ne 5, 3) := by decide +kernel
theorem d_Model_isDone_19 : decode b_Model_isDone 19 = .ok (.iconst 0, 1) := by decide +kernel
theorem d_Model_isDone_20 : decode b_Model_isDone 20 = .ok (.ireturn, 1) := by decide +kernel
theorem d_Model_isDone_21 : decode b_Model_isDone 21 = .ok (.iinc 1 1, 3) := by decide +kernel
theorem d_Model_isDone_24 : decode b_Model_isDone 24 = .ok (.goto (-22), 3) := by decide +kernel
theorem d_Model_isDone_27 : decode b_Model_isDone 27 = .ok (.iconst 0, 1) := by decide +kernel
theorem d_Model_isDone_28 : decode b_Model_isDone 28 = .ok (.istore_n 1, 1) := by decide +kernel
theorem d_Model_isDone_29 : decode b_Model_isDone 29 = .ok (.iload_n 1, 1) := by decide +kernel
theorem d_Model_isDone_30 : decode b_Model_isDone 30 = .ok (.aload_n 0, 1) := by decide +kernel
theorem d_Model_isDone_31 : decode b_Model_isDone 31 = .ok (.getfield 7, 3) := by decide +kernel
theorem d_Model_isDone_34 : decode b_Model_isDone 34 = .ok (.if_icmp .ge 19, 3) := by decide +kernel
theorem d_Model_isDone_37 : decode b_Model_isDone 37 = .ok (.aload_n 0, 1) := by decide +kernel
theorem d_Model_isDone_38 : decode b_Model_isDone 38 = .ok (.iload_n 1, 1) := by decide +kernel
theorem d_Model_isDone_39 : decode b_Model_isDone 39 = .ok (.invokevirtual 166, 3) := by decide +kernel
theorem d_Model_isDone_42 : decode b_Model_isDone 42 = .ok (.ifCond .ne 5, 3) := by decide +kernel
theorem d_Model_isDone_45 : decode b_Model_isDone 45 = .ok (.iconst 0, 1) := by decide +kernel
theorem d_Model_isDone_46 : decode b_Model_isDone 46 = .ok (.ireturn, 1) := by decide +kernel
theorem d_Model_isDone_47 : decode b_Model_isDone 47 = .ok (.iinc 1 1, 3) := by decide +kernel
theorem d_Model_isDone_50 : decode b_Model_isDone 50 = .ok (.goto (-21), 3) := by decide +kernel
theorem d_Model_isDone_53 : decode b_Model_isDone 53 = .ok (.iconst 1, 1) := by decide +kernel
theorem d_Model_isDone_54 : decode b_Model_isDone 54 = .ok (.ireturn, 1) := by decide +kernel
theorem d_Model_run_0 : decode b_Model_run 0 = .ok (.aload_n 0, 1) := by decide +kernel
theorem d_Model_run_1 : decode b_Model_run 1 = .ok (.iconst 0, 1) := by decide +kernel
theorem d_Model_run_2 : decode b_Model_run 2 = .ok (.putfield 99, 3) := by decide +kernel
theorem d_Model_run_5 : decode b_Model_run 5 = .ok (.aload_n 0, 1) := by decide +kernel
theorem d_Model_run_6 : decode b_Model_run 6 = .ok (.iconst 0, 1) := by decide +kernel
theorem d_Model_run_7 : decode b_Model_run 7 = .ok (.putfield 117, 3) := by decide +kernel
theorem d_Model_run_10 : decode b_Model_run 10 = .ok (.aload_n 0, 1) := by decide +kernel
theorem d_Model_run_11 : decode b_Model_run 11 = .ok (.iconst 0, 1) := by decide +kernel
theorem d_Model_run_12 : decode b_Model_run 12 = .ok (.putfield 150, 3) := by decide +kernel
theorem d_Model_run_15 : decode b_Model_run 15 = .ok (.aload_n 0, 1) := by decide +kernel
theorem d_Model_run_16 : decode b_Model_run 16 = .ok (.iconst 0, 1) := by decide +kernel
theorem d_Model_run_17 : decode b_Model_run 17 = .ok (.putfield 120, 3) := by decide +kernel
theorem d_Model_run_20 : decode b_Model_run 20 = .ok (.aload_n 0, 1) := by decide +kernel
theorem d_Model_run_21 : decode b_Model_run 21 = .ok (.iconst 0, 1) := by decide +kernel
theorem d_Model_run_22 : decode b_Model_run 22 = .ok (.putfield 176, 3) := by decide +kernel
theorem d_Model_run_25 : decode b_Model_run 25 = .ok (.aload_n 0, 1) := by decide +kernel
theorem d_Model_run_26 : decode b_Model_run 26 = .ok (.iconst 0, 1) := by decide +kernel
theorem d_Model_run_27 : decode b_Model_run 27 = .ok (.putfield 173, 3) := by decide +kernel
theorem d_Model_run_30 : decode b_Model_run 30 = .ok (.aload_n 0, 1) := by decide +kernel
theorem d_Model_run_31 : decode b_Model_run 31 = .ok (.iconst 0, 1) := by decide +kernel
theorem d_Model_run_32 : decode b_Model_run 32 = .ok (.putfield 131, 3) := by decide +kernel
theorem d_Model_run_35 : decode b_Model_run 35 = .ok (.aload_n 0, 1) := by decide +kernel
theorem d_Model_run_36 : decode b_Model_run 36 = .ok (.invokevirtual 179, 3) := by decide +kernel
theorem d_Model_run_39 : decode b_Model_run 39 = .ok (.iconst 0, 1) := by decide +kernel
theorem d_Model_run_40 : decode b_Model_run 40 = .ok (.istore_n 1, 1) := by decide +kernel
theorem d_Model_run_41 : decode b_Model_run 41 = .ok (.iload_n 1, 1) := by decide +kernel
theorem d_Model_run_42 : decode b_Model_run 42 = .ok (.aload_n 0, 1) := by decide +kernel
theorem d_Model_run_43 : decode b_Model_run 43 = .ok (.getfield 114, 3) := by decide +kernel
theorem d_Model_run_46 : decode b_Model_run 46 = .ok (.if_icmp .ge 58, 3) := by decide +kernel
theorem d_Model_run_49 : decode b_Model_run 49 = .ok (.aload_n 0, 1) := by decide +kernel
theorem d_Model_run_50 : decode b_Model_run 50 = .ok (.getfield 38, 3) := by decide +kernel
theorem d_Model_run_53 : decode b_Model_run 53 = .ok (.iload_n 1, 1) := by decide +kernel
theorem d_Model_run_54 : decode b_Model_run 54 = .ok (.iconst 0, 1) := by decide +kernel
theorem d_Model_run_55 : decode b_Model_run 55 = .ok (.iastore, 1) := by decide +kernel
theorem d_Model_run_56 : decode b_Model_run 56 = .ok (.aload_n 0, 1) := by decide +kernel
theorem d_Model_run_57 : decode b_Model_run 57 = .ok (.getfield 41, 3) := by decide +kernel
theorem d_Model_run_60 : decode b_Model_run 60 = .ok (.iload_n 1, 1) := by decide +kernel
theorem d_Model_run_61 : decode b_Model_run 61 = .ok (.iconst (-1), 1) := by decide +kernel
theorem d_Model_run_62 : decode b_Model_run 62 = .ok (.iastore, 1) := by decide +kernel
theorem d_Model_run_63 : decode b_Model_run 63 = .ok (.aload_n 0, 1) := by decide +kernel
theorem d_Model_run_64 : decode b_Model_run 64 = .ok (.getfield 44, 3) := by decide +kernel
theorem d_Model_run_67 : decode b_Model_run 67 = .ok (.iload_n 1, 1) := by decide +kernel
theorem d_Model_run_68 : decode b_Model_run 68 = .ok (.iconst (-1), 1) := by decide +kernel
theorem d_Model_run_69 : decode b_Model_run 69 = .ok (.iastore, 1) := by decide +kernel
theorem d_Model_run_70 : decode b_Model_run 70 = .ok (.aload_n 0, 1) := by decide +kernel
theorem d_Model_run_71 : decode b_Model_run 71 = .ok (.getfield 47, 3) := by decide +kernel
theorem d_Model_run_74 : decode b_Model_run 74 = .ok (.iload_n 1, 1) := by decide +kernel
theorem d_Model_run_75 : decode b_Model_run 75 = .ok (.iconst (-1), 1) := by decide +kernel
theorem d_Model_run_76 : decode b_Model_run 76 = .ok (.iastore, 1) := by decide +kernel
theorem d_Model_run_77 : decode b_Model_run 77 = .ok (.aload_n 0, 1) := by decide +kernel
theorem d_Model_run_78 : decode b_Model_run 78 = .ok (.getfield 50, 3) := by decide +kernel
theorem d_Model_run_81 : decode b_Model_run 81 = .ok (.iload_n 1, 1) := by decide +kernel
theorem d_Model_run_82 : decode b_Model_run 82 = .ok (.iconst (-1), 1) := by decide +kernel
theorem d_Model_run_83 : decode b_Model_run 83 = .ok (.iastore, 1) := by decide +kernel
theorem d_Model_run_84 : decode b_Model_run 84 = .ok (.aload_n 0, 1) := by decide +kernel
theorem d_Model_run_85 : decode b_Model_run 85 = .ok (.getfield 62, 3) := by decide +kernel
theorem d_Model_run_88 : decode b_Model_run 88 = .ok (.iload_n 1, 1) := by decide +kernel
theorem d_Model_run_89 : decode b_Model_run 89 = .ok (.iconst 0, 1) := by decide +kernel
theorem d_Model_run_90 : decode b_Model_run 90 = .ok (.bastore, 1) := by decide +kernel
theorem d_Model_run_91 : decode b_Model_run 91 = .ok (.aload_n 0, 1) := by decide +kernel
theorem d_Model_run_92 : decode b_Model_run 92 = .ok (.getfield 59, 3) := by decide +kernel
theorem d_Model_run_95 : decode b_Model_run 95 = .ok (.iload_n 1, 1) := by decide +kernel
theorem d_Model_run_96 : decode b_Model_run 96 = .ok (.iconst 0, 1) := by decide +kernel
theorem d_Model_run_97 : decode b_Model_run 97 = .ok (.iastore, 1) := by decide +kernel
theorem d_Model_run_98 : decode b_Model_run 98 = .ok (.iinc 1 1, 3) := by decide +kernel
theorem d_Model_run_101 : decode b_Model_run 101 = .ok (.goto (-60), 3) := by decide +kernel
theorem d_Model_run_104 : decode b_Model_run 104 = .ok (.iconst 0, 1) := by decide +kernel
theorem d_Model_run_105 : decode b_Model_run 105 = .ok (.istore_n 1, 1) := by decide +kernel
theorem d_Model_run_106 : decode b_Model_run 106 = .ok (.iload_n 1, 1) := by decide +kernel
theorem d_Model_run_107 : decode b_Model_run 107 = .ok (.iconst 4, 1) := by decide +kernel
theorem d_Model_run_108 : decode b_Model_run 108 = .ok (.if_icmp .ge 16, 3) := by decide +kernel
theorem d_Model_run_111 : decode b_Model_run 111 = .ok (.aload_n 0, 1) := by decide +kernel
theorem d_Model_run_112 : decode b_Model_run 112 = .ok (.getfield 66, 3) := by decide +kernel
theorem d_Model_run_115 : decode b_Model_run 115 = .ok (.iload_n 1, 1) := by decide +kernel
theorem d_Model_run_116 : decode b_Model_run 116 = .ok (.iconst (-1), 1) := by decide +kernel
theorem d_Model_run_117 : decode b_Model_run 117 = .ok (.iastore, 1) := by decide +kernel
theorem d_Model_run_118 : decode b_Model_run 118 = .ok (.iinc 1 1, 3) := by decide +kernel
theorem d_Model_run_121 : decode b_Model_run 121 = .ok (.goto (-15), 3) := by decide +kernel
theorem d_Model_run_124 : decode b_Model_run 124 = .ok (.iconst 0, 1) := by decide +kernel
theorem d_Model_run_125 : decode b_Model_run 125 = .ok (.istore_n 1, 1) := by decide +kernel
theorem d_Model_run_126 : decode b_Model_run 126 = .ok (.iload_n 1, 1) := by decide +kernel
theorem d_Model_run_127 : decode b_Model_run 127 = .ok (.ifCond .ne 84, 3) := by decide +kernel
theorem d_Model_run_130 : decode b_Model_run 130 = .ok (.aload_n 0, 1) := by decide +kernel
theorem d_Model_run_131 : decode b_Model_run 131 = .ok (.getfield 117, 3) := by decide +kernel
theorem d_Model_run_134 : decode b_Model_run 134 = .ok (.sipush 150, 3) := by decide +kernel
theorem d_Model_run_137 : decode b_Model_run 137 = .ok (.if_icmp .ge 74, 3) := by decide +kernel
theorem d_Model_run_140 : decode b_Model_run 140 = .ok (.aload_n 0, 1) := by decide +kernel
theorem d_Model_run_141 : decode b_Model_run 141 = .ok (.invokevirtual 182, 3) := by decide +kernel
theorem d_Model_run_144 : decode b_Model_run 144 = .ok (.aload_n 0, 1) := by decide +kernel
theorem d_Model_run_145 : decode b_Model_run 145 = .ok (.invokevirtual 185, 3) := by decide +kernel
theorem d_Model_run_148 : decode b_Model_run 148 = .ok (.aload_n 0, 1) := by decide +kernel
theorem d_Model_run_149 : decode b_Model_run 149 = .ok (.invokevirtual 188, 3) := by decide +kernel
theorem d_Model_run_152 : decode b_Model_run 152 = .ok (.istore_n 1, 1) := by decide +kernel
theorem d_Model_run_153 : decode b_Model_run 153 = .ok (.iload_n 1, 1) := by decide +kernel
theorem d_Model_run_154 : decode b_Model_run 154 = .ok (.ifCond .eq 7, 3) := by decide +kernel
theorem d_Model_run_157 : decode b_Model_run 157 = .ok (.iconst 0, 1) := by decide +kernel
theorem d_Model_run_158 : decode b_Model_run 158 = .ok (.goto 7, 3) := by decide +kernel
theorem d_Model_run_161 : decode b_Model_run 161 = .ok (.aload_n 0, 1) := by decide +kernel
theorem d_Model_run_162 : decode b_Model_run 162 = .ok (.getfield 131, 3) := by decide +kernel
theorem d_Model_run_165 : decode b_Model_run 165 = .ok (.istore_n 2, 1) := by decide +kernel
theorem d_Model_run_166 : decode b_Model_run 166 = .ok (.iconst 0, 1) := by decide +kernel
theorem d_Model_run_167 : decode b_Model_run 167 = .ok (.istore_n 3, 1) := by decide +kernel
theorem d_Model_run_168 : decode b_Model_run 168 = .ok (.iload_n 3, 1) := by decide +kernel
theorem d_Model_run_169 : decode b_Model_run 169 = .ok (.iload_n 2, 1) := by decide +kernel
theorem d_Model_run_170 : decode b_Model_run 170 = .ok (.if_icmp .ge 24, 3) := by decide +kernel
theorem d_Model_run_173 : decode b_Model_run 173 = .ok (.aload_n 0, 1) := by decide +kernel
theorem d_Model_run_174 : decode b_Model_run 174 = .ok (.getfield 81, 3) := by decide +kernel
theorem d_Model_run_177 : decode b_Model_run 177 = .ok (.iload_n 3, 1) := by decide +kernel
theorem d_Model_run_178 : decode b_Model_run 178 = .ok (.iaload, 1) := by decide +kernel
theorem d_Model_run_179 : decode b_Model_run 179 = .ok (.iconst 5, 1) := by decide +kernel
theorem d_Model_run_180 : decode b_Model_run 180 = .ok (.if_icmp .eq 8, 3) := by decide +kernel
theorem d_Model_run_183 : decode b_Model_run 183 = .ok (.aload_n 0, 1) := by decide +kernel
theorem d_Model_run_184 : decode b_Model_run 184 = .ok (.iload_n 3, 1) := by decide +kernel
theorem d_Model_run_185 : decode b_Model_run 185 = .ok (.invokevirtual 192, 3) := by decide +kernel
theorem d_Model_run_188 : decode b_Model_run 188 = .ok (.iinc 3 1, 3) := by decide +kernel
theorem d_Model_run_191 : decode b_Model_run 191 = .ok (.goto (-23), 3) := by decide +kernel
theorem d_Model_run_194 : decode b_Model_run 194 = .ok (.iload_n 1, 1) := by decide +kernel
theorem d_Model_run_195 : decode b_Model_run 195 = .ok (.ifCond .ne 13, 3) := by decide +kernel
theorem d_Model_run_198 : decode b_Model_run 198 = .ok (.aload_n 0, 1) := by decide +kernel
theorem d_Model_run_199 : decode b_Model_run 199 = .ok (.dup, 1) := by decide +kernel
theorem d_Model_run_200 : decode b_Model_run 200 = .ok (.getfield 117, 3) := by decide +kernel
theorem d_Model_run_203 : decode b_Model_run 203 = .ok (.iconst 1, 1) := by decide +kernel
theorem d_Model_run_204 : decode b_Model_run 204 = .ok (.iadd, 1) := by decide +kernel
theorem d_Model_run_205 : decode b_Model_run 205 = .ok (.putfield 117, 3) := by decide +kernel
theorem d_Model_run_208 : decode b_Model_run 208 = .ok (.goto (-82), 3) := by decide +kernel
theorem d_Model_run_211 : decode b_Model_run 211 = .ok (.iconst 0, 1) := by decide +kernel
theorem d_Model_run_212 : decode b_Model_run 212 = .ok (.istore_n 2, 1) := by decide +kernel
theorem d_Model_run_213 : decode b_Model_run 213 = .ok (.iload_n 2, 1) := by decide +kernel
theorem d_Model_run_214 : decode b_Model_run 214 = .ok (.aload_n 0, 1) := by decide +kernel
theorem d_Model_run_215 : decode b_Model_run 215 = .ok (.getfield 114, 3) := by decide +kernel
theorem d_Model_run_218 : decode b_Model_run 218 = .ok (.if_icmp .ge 25, 3) := by decide +kernel
theorem d_Model_run_221 : decode b_Model_run 221 = .ok (.aload_n 0, 1) := by decide +kernel
theorem d_Model_run_222 : decode b_Model_run 222 = .ok (.getfield 38, 3) := by decide +kernel
theorem d_Model_run_225 : decode b_Model_run 225 = .ok (.iload_n 2, 1) := by decide +kernel
theorem d_Model_run_226 : decode b_Model_run 226 = .ok (.iaload, 1) := by decide +kernel
theorem d_Model_run_227 : decode b_Model_run 227 = .ok (.ifCond .ne 10, 3) := by decide +kernel
theorem d_Model_run_230 : decode b_Model_run 230 = .ok (.aload_n 0, 1) := by decide +kernel
theorem d_Model_run_231 : decode b_Model_run 231 = .ok (.iload_n 2, 1) := by decide +kernel
theorem d_Model_run_232 : decode b_Model_run 232 = .ok (.iconst 4, 1) := by decide +kernel
theorem d_Model_run_233 : decode b_Model_run 233 = .ok (.iconst (-1), 1) := by decide +kernel
theorem d_Model_run_234 : decode b_Model_run 234 = .ok (.invokevirtual 127, 3) := by decide +kernel
theorem d_Model_run_237 : decode b_Model_run 237 = .ok (.iinc 2 1, 3) := by decide +kernel
theorem d_Model_run_240 : decode b_Model_run 240 = .ok (.goto (-27), 3) := by decide +kernel
theorem d_Model_run_243 : decode b_Model_run 243 = .ok (.iconst 0, 1) := by decide +kernel
theorem d_Model_run_244 : decode b_Model_run 244 = .ok (.istore_n 2, 1) := by decide +kernel
theorem d_Model_run_245 : decode b_Model_run 245 = .ok (.iload_n 2, 1) := by decide +kernel
theorem d_Model_run_246 : decode b_Model_run 246 = .ok (.aload_n 0, 1) := by decide +kernel
theorem d_Model_run_247 : decode b_Model_run 247 = .ok (.getfield 131, 3) := by decide +kernel
theorem d_Model_run_250 : decode b_Model_run 250 = .ok (.if_icmp .ge 29, 3) := by decide +kernel
theorem d_Model_run_253 : decode b_Model_run 253 = .ok (.aload_n 0, 1) := by decide +kernel
theorem d_Model_run_254 : decode b_Model_run 254 = .ok (.getfield 81, 3) := by decide +kernel
theorem d_Model_run_257 : decode b_Model_run 257 = .ok (.iload_n 2, 1) := by decide +kernel
theorem d_Model_run_258 : decode b_Model_run 258 = .ok (.iaload, 1) := by decide +kernel
theorem d_Model_run_259 : decode b_Model_run 259 = .ok (.iconst 5, 1) := by decide +kernel
theorem d_Model_run_260 : decode b_Model_run 260 = .ok (.if_icmp .eq 13, 3) := by decide +kernel
theorem d_Model_run_263 : decode b_Model_run 263 = .ok (.aload_n 0, 1) := by decide +kernel
theorem d_Model_run_264 : decode b_Model_run 264 = .ok (.dup, 1) := by decide +kernel
theorem d_Model_run_265 : decode b_Model_run 265 = .ok (.getfield 176, 3) := by decide +kernel
theorem d_Model_run_268 : decode b_Model_run 268 = .ok (.iconst 1, 1) := by decide +kernel
theorem d_Model_run_269 : decode b_Model_run 269 = .ok (.iadd, 1) := by decide +kernel
theorem d_Model_run_270 : decode b_Model_run 270 = .ok (.putfield 176, 3) := by decide +kernel
theorem d_Model_run_273 : decode b_Model_run 273 = .ok (.iinc 2 1, 3) := by decide +kernel
theorem d_Model_run_276 : decode b_Model_run 276 = .ok (.goto (-31), 3) := by decide +kernel
theorem d_Model_run_279 : decode b_Model_run 279 = .ok (.aload_n 0, 1) := by decide +kernel
theorem d_Model_run_280 : decode b_Model_run 280 = .ok (.iconst 0, 1) := by decide +kernel
theorem d_Model_run_281 : decode b_Model_run 281 = .ok (.putfield 196, 3) := by decide +kernel
theorem d_Model_run_284 : decode b_Model_run 284 = .ok (.iconst 0, 1) := by decide +kernel
theorem d_Model_run_285 : decode b_Model_run 285 = .ok (.istore_n 2, 1) := by decide +kernel
theorem d_Model_run_286 : decode b_Model_run 286 = .ok (.iload_n 2, 1) := by decide +kernel
theorem d_Model_run_287 : decode b_Model_run 287 = .ok (.aload_n 0, 1) := by decide +kernel
theorem d_Model_run_288 : decode b_Model_run 288 = .ok (.getfield 114, 3) := by decide +kernel
theorem d_Model_run_291 : decode b_Model_run 291 = .ok (.if_icmp .ge 24, 3) := by decide +kernel
theorem d_Model_run_294 : decode b_Model_run 294 = .ok (.aload_n 0, 1) := by decide +kernel
theorem d_Model_run_295 : decode b_Model_run 295 = .ok (.getfield 38, 3) := by decide +kernel
theorem d_Model_run_298 : decode b_Model_run 298 = .ok (.iload_n 2, 1) := by decide +kernel
theorem d_Model_run_299 : decode b_Model_run 299 = .ok (.iaload, 1) := by decide +kernel
theorem d_Model_run_300 : decode b_Model_run 300 = .ok (.iconst 1, 1) := by decide +kernel
theorem d_Model_run_301 : decode b_Model_run 301 = .ok (.if_icmp .eq 8, 3) := by decide +kernel
theorem d_Model_run_304 : decode b_Model_run 304 = .ok (.aload_n 0, 1) := by decide +kernel
theorem d_Model_run_305 : decode b_Model_run 305 = .ok (.iconst 1, 1) := by decide +kernel
theorem d_Model_run_306 : decode b_Model_run 306 = .ok (.putfield 196, 3) := by decide +kernel
theorem d_Model_run_309 : decode b_Model_run 309 = .ok (.iinc 2 1, 3) := by decide +kernel
theorem d_Model_run_312 : decode b_Model_run 312 = .ok (.goto (-26), 3) := by decide +kernel
theorem d_Model_run_315 : decode b_Model_run 315 = .ok (.aload_n 0, 1) := by decide +kernel
theorem d_Model_run_316 : decode b_Model_run 316 = .ok (.getfield 117, 3) := by decide +kernel
theorem d_Model_run_319 : decode b_Model_run 319 = .ok (.ireturn, 1) := by decide +kernel
theorem d_Model_look_0 : decode b_Model_look 0 = .ok (.aload_n 0, 1) := by decide +kernel
theorem d_Model_look_1 : decode b_Model_look 1 = .ok (.iconst 0, 1) := by decide +kernel
theorem d_Model_look_2 : decode b_Model_look 2 = .ok (.putfield 99, 3) := by decide +kernel
theorem d_Model_look_5 : decode b_Model_look 5 = .ok (.aload_n 0, 1) := by decide +kernel
theorem d_Model_look_6 : decode b_Model_look 6 = .ok (.iload_n 1, 1) := by decide +kernel
theorem d_Model_look_7 : decode b_Model_look 7 = .ok (.iconst 0, 1) := by decide +kernel
theorem d_Model_look_8 : decode b_Model_look 8 = .ok (.aload_n 0, 1) := by decide +kernel
theorem d_Model_look_9 : decode b_Model_look 9 = .ok (.getfield 114, 3) := by decide +kernel
theorem d_Model_look_12 : decode b_Model_look 12 = .ok (.iconst 1, 1) := by decide +kernel
theorem d_Model_look_13 : decode b_Model_look 13 = .ok (.isub, 1) := by decide +kernel
theorem d_Model_look_14 : decode b_Model_look 14 = .ok (.invokestatic 102, 3) := by decide +kernel
theorem d_Model_look_17 : decode b_Model_look 17 = .ok (.ifCond .eq 13, 3) := by decide +kernel
theorem d_Model_look_20 : decode b_Model_look 20 = .ok (.iload_n 2, 1) := by decide +kernel
theorem d_Model_look_21 : decode b_Model_look 21 = .ok (.iconst 0, 1) := by decide +kernel
theorem d_Model_look_22 : decode b_Model_look 22 = .ok (.bipush 6, 2) := by decide +kernel
theorem d_Model_look_24 : decode b_Model_look 24 = .ok (.invokestatic 102, 3) := by decide +kernel
theorem d_Model_look_27 : decode b_Model_look 27 = .ok (.ifCond .ne 7, 3) := by decide +kernel
theorem d_Model_look_30 : decode b_Model_look 30 = .ok (.iconst 1, 1) := by decide +kernel
theorem d_Model_look_31 : decode b_Model_look 31 = .ok (.goto 4, 3) := by decide +kernel
theorem d_Model_look_34 : decode b_Model_look 34 = .ok (.iconst 0, 1) := by decide +kernel
theorem d_Model_look_35 : decode b_Model_look 35 = .ok (.iconst 1, 1) := by decide +kernel
theorem d_Model_look_36 : decode b_Model_look 36 = .ok (.invokevirtual 110, 3) := by decide +kernel
theorem d_Model_look_39 : decode b_Model_look 39 = .ok (.ifCond .eq 5, 3) := by decide +kernel
theorem d_Model_look_42 : decode b_Model_look 42 = .ok (.iconst 0, 1) := by decide +kernel
theorem d_Model_look_43 : decode b_Model_look 43 = .ok (.ireturn, 1) := by decide +kernel
theorem d_Model_look_44 : decode b_Model_look 44 = .ok (.iload_n 2, 1) := by decide +kernel
theorem d_Model_look_45 : decode b_Model_look 45 = .ok (.tableswitch 89 0 5 #[39, 46, 53, 60, 67, 74], 39) := by decide +kernel
theorem d_Model_look_84 : decode b_Model_look 84 = .ok (.aload_n 0, 1) := by decide +kernel
theorem d_Model_look_85 : decode b_Model_look 85 = .ok (.getfield 38, 3) := by decide +kernel
theorem d_Model_look_88 : decode b_Model_look 88 = .ok (.iload_n 1, 1) := by decide +kernel
theorem d_Model_look_89 : decode b_Model_look 89 = .ok (.iaload, 1) := by decide +kernel
theorem d_Model_look_90 : decode b_Model_look 90 = .ok (.ireturn, 1) := by decide +kernel
theorem d_Model_look_91 : decode b_Model_look 91 = .ok (.aload_n 0, 1) := by decide +kernel
theorem d_Model_look_92 : decode b_Model_look 92 = .ok (.getfield 41, 3) := by decide +kernel
theorem d_Model_look_95 : decode b_Model_look 95 = .ok (.iload_n 1, 1) := by decide +kernel
theorem d_Model_look_96 : decode b_Model_look 96 = .ok (.iaload, 1) := by decide +kernel
theorem d_Model_look_97 : decode b_Model_look 97 = .ok (.ireturn, 1) := by decide +kernel
theorem d_Model_look_98 : decode b_Model_look 98 = .ok (.aload_n 0, 1) := by decide +kernel
theorem d_Model_look_99 : decode b_Model_look 99 = .ok (.getfield 44, 3) := by decide +kernel
theorem d_Model_look_102 : decode b_Model_look 102 = .ok (.iload_n 1, 1) := by decide +kernel
theorem d_Model_look_103 : decode b_Model_look 103 = .ok (.iaload, 1) := by decide +kernel
theorem d_Model_look_104 : decode b_Model_look 104 = .ok (.ireturn, 1) := by decide +kernel
theorem d_Model_look_105 : decode b_Model_look 105 = .ok (.aload_n 0, 1) := by decide +kernel
theorem d_Model_look_106 : decode b_Model_look 106 = .ok (.getfield 47, 3) := by decide +kernel
theorem d_Model_look_109 : decode b_Model_look 109 = .ok (.iload_n 1, 1) := by decide +kernel
theorem d_Model_look_110 : decode b_Model_look 110 = .ok (.iaload, 1) := by decide +kernel
theorem d_Model_look_111 : decode b_Model_look 111 = .ok (.ireturn, 1) := by decide +kernel
theorem d_Model_look_112 : decode b_Model_look 112 = .ok (.aload_n 0, 1) := by decide +kernel
theorem d_Model_look_113 : decode b_Model_look 113 = .ok (.getfield 50, 3) := by decide +kernel
theorem d_Model_look_116 : decode b_Model_look 116 = .ok (.iload_n 1, 1) := by decide +kernel
theorem d_Model_look_117 : decode b_Model_look 117 = .ok (.iaload, 1) := by decide +kernel
theorem d_Model_look_118 : decode b_Model_look 118 = .ok (.ireturn, 1) := by decide +kernel
theorem d_Model_look_119 : decode b_Model_look 119 = .ok (.aload_n 0, 1) := by decide +kernel
theorem d_Model_look_120 : decode b_Model_look 120 = .ok (.getfield 62, 3) := by decide +kernel
theorem d_Model_look_123 : decode b_Model_look 123 = .ok (.iload_n 1, 1) := by decide +kernel
theorem d_Model_look_124 : decode b_Model_look 124 = .ok (.baload, 1) := by decide +kernel
theorem d_Model_look_125 : decode b_Model_look 125 = .ok (.ifCond .eq 7, 3) := by decide +kernel
theorem d_Model_look_128 : decode b_Model_look 128 = .ok (.iconst 1, 1) := by decide +kernel
theorem d_Model_look_129 : decode b_Model_look 129 = .ok (.goto 4, 3) := by decide +kernel
theorem d_Model_look_132 : decode b_Model_look 132 = .ok (.iconst 0, 1) := by decide +kernel
theorem d_Model_look_133 : decode b_Model_look 133 = .ok (.ireturn, 1) := by decide +kernel
theorem d_Model_look_134 : decode b_Model_look 134 = .ok (.aload_n 0, 1) := by decide +kernel
theorem d_Model_look_135 : decode b_Model_look 135 = .ok (.getfield 59, 3) := by decide +kernel
theorem d_Model_look_138 : decode b_Model_look 138 = .ok (.iload_n 1, 1) := by decide +kernel
theorem d_Model_look_139 : decode b_Model_look 139 = .ok (.iaload, 1) := by decide +kernel
theorem d_Model_look_140 : decode b_Model_look 140 = .ok (.ireturn, 1) := by decide +kernel
theorem d_Model_note_0 : decode b_Model_note 0 = .ok (.aload_n 0, 1) := by decide +kernel
theorem d_Model_note_1 : decode b_Model_note 1 = .ok (.iconst 0, 1) := by decide +kernel
theorem d_Model_note_2 : decode b_Model_note 2 = .ok (.putfield 99, 3) := by decide +kernel
theorem d_Model_note_5 : decode b_Model_note 5 = .ok (.aload_n 0, 1) := by decide +kernel
theorem d_Model_note_6 : decode b_Model_note 6 = .ok (.iload_n 1, 1) := by decide +kernel
theorem d_Model_note_7 : decode b_Model_note 7 = .ok (.iconst 0, 1) := by decide +kernel
theorem d_Model_note_8 : decode b_Model_note 8 = .ok (.aload_n 0, 1) := by decide +kernel
theorem d_Model_note_9 : decode b_Model_note 9 = .ok (.getfield 150, 3) := by decide +kernel
theorem d_Model_note_12 : decode b_Model_note 12 = .ok (.bipush 12, 2) := by decide +kernel
theorem d_Model_note_14 : decode b_Model_note 14 = .ok (.invokestatic 134, 3) := by decide +kernel
theorem d_Model_note_17 : decode b_Model_note 17 = .ok (.iconst 1, 1) := by decide +kernel
theorem d_Model_note_18 : decode b_Model_note 18 = .ok (.isub, 1) := by decide +kernel
theorem d_Model_note_19 : decode b_Model_note 19 = .ok (.invokestatic 102, 3) := by decide +kernel
theorem d_Model_note_22 : decode b_Model_note 22 = .ok (.ifCond .ne 7, 3) := by decide +kernel
theorem d_Model_note_25 : decode b_Model_note 25 = .ok (.iconst 1, 1) := by decide +kernel
theorem d_Model_note_26 : decode b_Model_note 26 = .ok (.goto 4, 3) := by decide +kernel
theorem d_Model_note_29 : decode b_Model_note 29 = .ok (.iconst 0, 1) := by decide +kernel
theorem d_Model_note_30 : decode b_Model_note 30 = .ok (.iconst 1, 1) := by decide +kernel
theorem d_Model_note_31 : decode b_Model_note 31 = .ok (.invokevirtual 110, 3) := by decide +kernel
theorem d_Model_note_34 : decode b_Model_note 34 = .ok (.ifCond .eq 7, 3) := by decide +kernel
theorem d_Model_note_37 : decode b_Model_note 37 = .ok (.iconst 0, 1) := by decide +kernel
theorem d_Model_note_38 : decode b_Model_note 38 = .ok (.goto 9, 3) := by decide +kernel
theorem d_Model_note_41 : decode b_Model_note 41 = .ok (.aload_n 0, 1) := by decide +kernel
theorem d_Model_note_42 : decode b_Model_note 42 = .ok (.getfield 93, 3) := by decide +kernel
theorem d_Model_note_45 : decode b_Model_note 45 = .ok (.iload_n 1, 1) := by decide +kernel
theorem d_Model_note_46 : decode b_Model_note 46 = .ok (.iaload, 1) := by decide +kernel
theorem d_Model_note_47 : decode b_Model_note 47 = .ok (.ireturn, 1) := by decide +kernel
theorem d_Model_warning_0 : decode b_Model_warning 0 = .ok (.aload_n 0, 1) := by decide +kernel
theorem d_Model_warning_1 : decode b_Model_warning 1 = .ok (.iconst 0, 1) := by decide +kernel
theorem d_Model_warning_2 : decode b_Model_warning 2 = .ok (.putfield 99, 3) := by decide +kernel
theorem d_Model_warning_5 : decode b_Model_warning 5 = .ok (.aload_n 0, 1) := by decide +kernel
theorem d_Model_warning_6 : decode b_Model_warning 6 = .ok (.iload_n 1, 1) := by decide +kernel
theorem d_Model_warning_7 : decode b_Model_warning 7 = .ok (.iconst 0, 1) := by decide +kernel
theorem d_Model_warning_8 : decode b_Model_warning 8 = .ok (.aload_n 0, 1) := by decide +kernel
theorem d_Model_warning_9 : decode b_Model_warning 9 = .ok (.getfield 120, 3) := by decide +kernel
theorem d_Model_warning_12 : decode b_Model_warning 12 = .ok (.bipush 8, 2) := by decide +kernel
theorem d_Model_warning_14 : decode b_Model_warning 14 = .ok (.invokestatic 134, 3) := by decide +kernel
theorem d_Model_warning_17 : decode b_Model_warning 17 = .ok (.iconst 1, 1) := by decide +kernel
theorem d_Model_warning_18 : decode b_Model_warning 18 = .ok (.isub, 1) := by decide +kernel
theorem d_Model_warning_19 : decode b_Model_warning 19 = .ok (.invokestatic 102, 3) := by decide +kernel
theorem d_Model_warning_22 : decode b_Model_warning 22 = .ok (.ifCond .ne 7, 3) := by decide +kernel
theorem d_Model_warning_25 : decode b_Model_warning 25 = .ok (.iconst 1, 1) := by decide +kernel
theorem d_Model_warning_26 : decode b_Model_warning 26 = .ok (.goto 4, 3) := by decide +kernel
theorem d_Model_warning_29 : decode b_Model_warning 29 = .ok (.iconst 0, 1) := by decide +kernel
theorem d_Model_warning_30 : decode b_Model_warning 30 = .ok (.iconst 1, 1) := by decide +kernel
theorem d_Model_warning_31 : decode b_Model_warning 31 = .ok (.invokevirtual 110, 3) := by decide +kernel
theorem d_Model_warning_34 : decode b_Model_warning 34 = .ok (.ifCond .eq 7, 3) := by decide +kernel
theorem d_Model_warning_37 : decode b_Model_warning 37 = .ok (.iconst 0, 1) := by decide +kernel
theorem d_Model_warning_38 : decode b_Model_warning 38 = .ok (.goto 9, 3) := by decide +kernel
theorem d_Model_warning_41 : decode b_Model_warning 41 = .ok (.aload_n 0, 1) := by decide +kernel
theorem d_Model_warning_42 : decode b_Model_warning 42 = .ok (.getfield 96, 3) := by decide +kernel
theorem d_Model_warning_45 : decode b_Model_warning 45 = .ok (.iload_n 1, 1) := by decide +kernel
theorem d_Model_warning_46 : decode b_Model_warning 46 = .ok (.iaload, 1) := by decide +kernel
theorem d_Model_warning_47 : decode b_Model_warning 47 = .ok (.ireturn, 1) := by decide +kernel
theorem d_Model_count_0 : decode b_Model_count 0 = .ok (.aload_n 0, 1) := by decide +kernel
theorem d_Model_count_1 : decode b_Model_count 1 = .ok (.iconst 0, 1) := by decide +kernel
theorem d_Model_count_2 : decode b_Model_count 2 = .ok (.putfield 99, 3) := by decide +kernel
theorem d_Model_count_5 : decode b_Model_count 5 = .ok (.aload_n 0, 1) := by decide +kernel
theorem d_Model_count_6 : decode b_Model_count 6 = .ok (.iload_n 1, 1) := by decide +kernel
theorem d_Model_count_7 : decode b_Model_count 7 = .ok (.iconst 0, 1) := by decide +kernel
theorem d_Model_count_8 : decode b_Model_count 8 = .ok (.bipush 6, 2) := by decide +kernel
theorem d_Model_count_10 : decode b_Model_count 10 = .ok (.invokestatic 102, 3) := by decide +kernel
theorem d_Model_count_13 : decode b_Model_count 13 = .ok (.ifCond .ne 7, 3) := by decide +kernel
theorem d_Model_count_16 : decode b_Model_count 16 = .ok (.iconst 1, 1) := by decide +kernel
theorem d_Model_count_17 : decode b_Model_count 17 = .ok (.goto 4, 3) := by decide +kernel
theorem d_Model_count_20 : decode b_Model_count 20 = .ok (.iconst 0, 1) := by decide +kernel
theorem d_Model_count_21 : decode b_Model_count 21 = .ok (.iconst 1, 1) := by decide +kernel
theorem d_Model_count_22 : decode b_Model_count 22 = .ok (.invokevirtual 110, 3) := by decide +kernel
theorem d_Model_count_25 : decode b_Model_count 25 = .ok (.ifCond .eq 5, 3) := by decide +kernel
theorem d_Model_count_28 : decode b_Model_count 28 = .ok (.iconst 0, 1) := by decide +kernel
theorem d_Model_count_29 : decode b_Model_count 29 = .ok (.ireturn, 1) := by decide +kernel
theorem d_Model_count_30 : decode b_Model_count 30 = .ok (.iload_n 1, 1) := by decide +kernel
theorem d_Model_count_31 : decode b_Model_count 31 = .ok (.tableswitch 67 0 5 #[37, 42, 47, 52, 57, 62], 37) := by decide +kernel
theorem d_Model_count_68 : decode b_Model_count 68 = .ok (.aload_n 0, 1) := by decide +kernel
theorem d_Model_count_69 : decode b_Model_count 69 = .ok (.getfield 114, 3) := by decide +kernel
theorem d_Model_count_72 : decode b_Model_count 72 = .ok (.ireturn, 1) := by decide +kernel
theorem d_Model_count_73 : decode b_Model_count 73 = .ok (.aload_n 0, 1) := by decide +kernel
theorem d_Model_count_74 : decode b_Model_count 74 = .ok (.getfield 150, 3) := by decide +kernel
theorem d_Model_count_77 : decode b_Model_count 77 = .ok (.ireturn, 1) := by decide +kernel
theorem d_Model_count_78 : decode b_Model_count 78 = .ok (.aload_n 0, 1) := by decide +kernel
theorem d_Model_count_79 : decode b_Model_count 79 = .ok (.getfield 120, 3) := by decide +kernel
theorem d_Model_count_82 : decode b_Model_count 82 = .ok (.ireturn, 1) := by decide +kernel
theorem d_Model_count_83 : decode b_Model_count 83 = .ok (.aload_n 0, 1) := by decide +kernel
theorem d_Model_count_84 : decode b_Model_count 84 = .ok (.getfield 176, 3) := by decide +kernel
theorem d_Model_count_87 : decode b_Model_count 87 = .ok (.ireturn, 1) := by decide +kernel
theorem d_Model_count_88 : decode b_Model_count 88 = .ok (.aload_n 0, 1) := by decide +kernel
theorem d_Model_count_89 : decode b_Model_count 89 = .ok (.getfield 131, 3) := by decide +kernel
theorem d_Model_count_92 : decode b_Model_count 92 = .ok (.ireturn, 1) := by decide +kernel
theorem d_Model_count_93 : decode b_Model_count 93 = .ok (.aload_n 0, 1) := by decide +kernel
theorem d_Model_count_94 : decode b_Model_count 94 = .ok (.getfield 173, 3) := by decide +kernel
theorem d_Model_count_97 : decode b_Model_count 97 = .ok (.ireturn, 1) := by decide +kernel
theorem d_Model_count_98 : decode b_Model_count 98 = .ok (.aload_n 0, 1) := by decide +kernel
theorem d_Model_count_99 : decode b_Model_count 99 = .ok (.getfield 196, 3) := by decide +kernel
theorem d_Model_count_102 : decode b_Model_count 102 = .ok (.ireturn, 1) := by decide +kernel
