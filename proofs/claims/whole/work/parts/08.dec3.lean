theorem dX12_init_0 : decode cX12_init 0 = .ok (.aload_n 0, 1) := by decide +kernel
theorem dX12_init_1 : decode cX12_init 1 = .ok (.invokespecial 3, 3) := by decide +kernel
theorem dX12_init_4 : decode cX12_init 4 = .ok (.aload_n 0, 1) := by decide +kernel
theorem dX12_init_5 : decode cX12_init 5 = .ok (.bipush 19, 2) := by decide +kernel
theorem dX12_init_7 : decode cX12_init 7 = .ok (.newarray .int, 2) := by decide +kernel
theorem dX12_init_9 : decode cX12_init 9 = .ok (.putfield 9, 3) := by decide +kernel
theorem dX12_init_12 : decode cX12_init 12 = .ok (.aload_n 0, 1) := by decide +kernel
theorem dX12_init_13 : decode cX12_init 13 = .ok (.bipush 80, 2) := by decide +kernel
theorem dX12_init_15 : decode cX12_init 15 = .ok (.newarray .byte, 2) := by decide +kernel
theorem dX12_init_17 : decode cX12_init 17 = .ok (.putfield 13, 3) := by decide +kernel
theorem dX12_init_20 : decode cX12_init 20 = .ok (.aload_n 0, 1) := by decide +kernel
theorem dX12_init_21 : decode cX12_init 21 = .ok (.bipush 16, 2) := by decide +kernel
theorem dX12_init_23 : decode cX12_init 23 = .ok (.newarray .long, 2) := by decide +kernel
theorem dX12_init_25 : decode cX12_init 25 = .ok (.putfield 17, 3) := by decide +kernel
theorem dX12_init_28 : decode cX12_init 28 = .ok (.aload_n 0, 1) := by decide +kernel
theorem dX12_init_29 : decode cX12_init 29 = .ok (.bipush 10, 2) := by decide +kernel
theorem dX12_init_31 : decode cX12_init 31 = .ok (.newarray .int, 2) := by decide +kernel
theorem dX12_init_33 : decode cX12_init 33 = .ok (.putfield 21, 3) := by decide +kernel
theorem dX12_init_36 : decode cX12_init 36 = .ok (.aload_n 0, 1) := by decide +kernel
theorem dX12_init_37 : decode cX12_init 37 = .ok (.iconst 2, 1) := by decide +kernel
theorem dX12_init_38 : decode cX12_init 38 = .ok (.newarray .int, 2) := by decide +kernel
theorem dX12_init_40 : decode cX12_init 40 = .ok (.putfield 24, 3) := by decide +kernel
theorem dX12_init_43 : decode cX12_init 43 = .ok (.aload_n 0, 1) := by decide +kernel
theorem dX12_init_44 : decode cX12_init 44 = .ok (.bipush 40, 2) := by decide +kernel
theorem dX12_init_46 : decode cX12_init 46 = .ok (.newarray .byte, 2) := by decide +kernel
theorem dX12_init_48 : decode cX12_init 48 = .ok (.putfield 27, 3) := by decide +kernel
theorem dX12_init_51 : decode cX12_init 51 = .ok (.aload_n 0, 1) := by decide +kernel
theorem dX12_init_52 : decode cX12_init 52 = .ok (.bipush 40, 2) := by decide +kernel
theorem dX12_init_54 : decode cX12_init 54 = .ok (.newarray .byte, 2) := by decide +kernel
theorem dX12_init_56 : decode cX12_init 56 = .ok (.putfield 30, 3) := by decide +kernel
theorem dX12_init_59 : decode cX12_init 59 = .ok (.aload_n 0, 1) := by decide +kernel
theorem dX12_init_60 : decode cX12_init 60 = .ok (.bipush 7, 2) := by decide +kernel
theorem dX12_init_62 : decode cX12_init 62 = .ok (.newarray .int, 2) := by decide +kernel
theorem dX12_init_64 : decode cX12_init 64 = .ok (.putfield 33, 3) := by decide +kernel
theorem dX12_init_67 : decode cX12_init 67 = .ok (.aload_n 0, 1) := by decide +kernel
theorem dX12_init_68 : decode cX12_init 68 = .ok (.sipush 228, 3) := by decide +kernel
theorem dX12_init_71 : decode cX12_init 71 = .ok (.newarray .int, 2) := by decide +kernel
theorem dX12_init_73 : decode cX12_init 73 = .ok (.putfield 36, 3) := by decide +kernel
theorem dX12_init_76 : decode cX12_init 76 = .ok (.aload_n 0, 1) := by decide +kernel
theorem dX12_init_77 : decode cX12_init 77 = .ok (.bipush 19, 2) := by decide +kernel
theorem dX12_init_79 : decode cX12_init 79 = .ok (.newarray .int, 2) := by decide +kernel
theorem dX12_init_81 : decode cX12_init 81 = .ok (.putfield 39, 3) := by decide +kernel
theorem dX12_init_84 : decode cX12_init 84 = .ok (.aload_n 0, 1) := by decide +kernel
theorem dX12_init_85 : decode cX12_init 85 = .ok (.bipush 19, 2) := by decide +kernel
theorem dX12_init_87 : decode cX12_init 87 = .ok (.newarray .int, 2) := by decide +kernel
theorem dX12_init_89 : decode cX12_init 89 = .ok (.putfield 42, 3) := by decide +kernel
theorem dX12_init_92 : decode cX12_init 92 = .ok (.aload_n 0, 1) := by decide +kernel
theorem dX12_init_93 : decode cX12_init 93 = .ok (.sipush 240, 3) := by decide +kernel
theorem dX12_init_96 : decode cX12_init 96 = .ok (.newarray .int, 2) := by decide +kernel
theorem dX12_init_98 : decode cX12_init 98 = .ok (.putfield 45, 3) := by decide +kernel
theorem dX12_init_101 : decode cX12_init 101 = .ok (.aload_n 0, 1) := by decide +kernel
theorem dX12_init_102 : decode cX12_init 102 = .ok (.iconst 4, 1) := by decide +kernel
theorem dX12_init_103 : decode cX12_init 103 = .ok (.newarray .int, 2) := by decide +kernel
theorem dX12_init_105 : decode cX12_init 105 = .ok (.putfield 48, 3) := by decide +kernel
theorem dX12_init_108 : decode cX12_init 108 = .ok (.aload_n 0, 1) := by decide +kernel
theorem dX12_init_109 : decode cX12_init 109 = .ok (.sipush 1024, 3) := by decide +kernel
theorem dX12_init_112 : decode cX12_init 112 = .ok (.newarray .int, 2) := by decide +kernel
theorem dX12_init_114 : decode cX12_init 114 = .ok (.putfield 51, 3) := by decide +kernel
theorem dX12_init_117 : decode cX12_init 117 = .ok (.aload_n 0, 1) := by decide +kernel
theorem dX12_init_118 : decode cX12_init 118 = .ok (.sipush 1024, 3) := by decide +kernel
theorem dX12_init_121 : decode cX12_init 121 = .ok (.newarray .int, 2) := by decide +kernel
theorem dX12_init_123 : decode cX12_init 123 = .ok (.putfield 54, 3) := by decide +kernel
theorem dX12_init_126 : decode cX12_init 126 = .ok (.aload_n 0, 1) := by decide +kernel
theorem dX12_init_127 : decode cX12_init 127 = .ok (.bipush 64, 2) := by decide +kernel
theorem dX12_init_129 : decode cX12_init 129 = .ok (.newarray .int, 2) := by decide +kernel
theorem dX12_init_131 : decode cX12_init 131 = .ok (.putfield 57, 3) := by decide +kernel
theorem dX12_init_134 : decode cX12_init 134 = .ok (.aload_n 0, 1) := by decide +kernel
theorem dX12_init_135 : decode cX12_init 135 = .ok (.bipush 12, 2) := by decide +kernel
theorem dX12_init_137 : decode cX12_init 137 = .ok (.newarray .int, 2) := by decide +kernel
theorem dX12_init_139 : decode cX12_init 139 = .ok (.putfield 60, 3) := by decide +kernel
theorem dX12_init_142 : decode cX12_init 142 = .ok (.aload_n 0, 1) := by decide +kernel
theorem dX12_init_143 : decode cX12_init 143 = .ok (.bipush 12, 2) := by decide +kernel
theorem dX12_init_145 : decode cX12_init 145 = .ok (.newarray .int, 2) := by decide +kernel
theorem dX12_init_147 : decode cX12_init 147 = .ok (.putfield 63, 3) := by decide +kernel
theorem dX12_init_150 : decode cX12_init 150 = .ok (.aload_n 0, 1) := by decide +kernel
theorem dX12_init_151 : decode cX12_init 151 = .ok (.bipush 10, 2) := by decide +kernel
theorem dX12_init_153 : decode cX12_init 153 = .ok (.newarray .int, 2) := by decide +kernel
theorem dX12_init_155 : decode cX12_init 155 = .ok (.putfield 66, 3) := by decide +kernel
theorem dX12_init_158 : decode cX12_init 158 = .ok (.aload_n 0, 1) := by decide +kernel
theorem dX12_init_159 : decode cX12_init 159 = .ok (.bipush 10, 2) := by decide +kernel
theorem dX12_init_161 : decode cX12_init 161 = .ok (.newarray .int, 2) := by decide +kernel
theorem dX12_init_163 : decode cX12_init 163 = .ok (.putfield 69, 3) := by decide +kernel
theorem dX12_init_166 : decode cX12_init 166 = .ok (.aload_n 0, 1) := by decide +kernel
theorem dX12_init_167 : decode cX12_init 167 = .ok (.sipush 201, 3) := by decide +kernel
theorem dX12_init_170 : decode cX12_init 170 = .ok (.newarray .boolean, 2) := by decide +kernel
theorem dX12_init_172 : decode cX12_init 172 = .ok (.putfield 72, 3) := by decide +kernel
theorem dX12_init_175 : decode cX12_init 175 = .ok (.aload_n 0, 1) := by decide +kernel
theorem dX12_init_176 : decode cX12_init 176 = .ok (.bipush 38, 2) := by decide +kernel
theorem dX12_init_178 : decode cX12_init 178 = .ok (.newarray .int, 2) := by decide +kernel
theorem dX12_init_180 : decode cX12_init 180 = .ok (.putfield 76, 3) := by decide +kernel
theorem dX12_init_183 : decode cX12_init 183 = .ok (.aload_n 0, 1) := by decide +kernel
theorem dX12_init_184 : decode cX12_init 184 = .ok (.iconst 2, 1) := by decide +kernel
theorem dX12_init_185 : decode cX12_init 185 = .ok (.newarray .boolean, 2) := by decide +kernel
theorem dX12_init_187 : decode cX12_init 187 = .ok (.putfield 79, 3) := by decide +kernel
theorem dX12_init_190 : decode cX12_init 190 = .ok (.aload_n 0, 1) := by decide +kernel
theorem dX12_init_191 : decode cX12_init 191 = .ok (.getfield 9, 3) := by decide +kernel
theorem dX12_init_194 : decode cX12_init 194 = .ok (.bipush 12, 2) := by decide +kernel
theorem dX12_init_196 : decode cX12_init 196 = .ok (.iconst 2, 1) := by decide +kernel
theorem dX12_init_197 : decode cX12_init 197 = .ok (.iastore, 1) := by decide +kernel
theorem dX12_init_198 : decode cX12_init 198 = .ok (.aload_n 0, 1) := by decide +kernel
theorem dX12_init_199 : decode cX12_init 199 = .ok (.getfield 9, 3) := by decide +kernel
theorem dX12_init_202 : decode cX12_init 202 = .ok (.bipush 13, 2) := by decide +kernel
theorem dX12_init_204 : decode cX12_init 204 = .ok (.iconst 2, 1) := by decide +kernel
theorem dX12_init_205 : decode cX12_init 205 = .ok (.iastore, 1) := by decide +kernel
theorem dX12_init_206 : decode cX12_init 206 = .ok (.aload_n 0, 1) := by decide +kernel
theorem dX12_init_207 : decode cX12_init 207 = .ok (.getfield 9, 3) := by decide +kernel
theorem dX12_init_210 : decode cX12_init 210 = .ok (.bipush 14, 2) := by decide +kernel
theorem dX12_init_212 : decode cX12_init 212 = .ok (.bipush 20, 2) := by decide +kernel
theorem dX12_init_214 : decode cX12_init 214 = .ok (.iastore, 1) := by decide +kernel
theorem dX12_init_215 : decode cX12_init 215 = .ok (.return_, 1) := by decide +kernel
theorem dX12_thrown_0 : decode cX12_thrown 0 = .ok (.aload_n 0, 1) := by decide +kernel
theorem dX12_thrown_1 : decode cX12_thrown 1 = .ok (.getfield 82, 3) := by decide +kernel
theorem dX12_thrown_4 : decode cX12_thrown 4 = .ok (.ireturn, 1) := by decide +kernel
theorem dX12_in_0 : decode cX12_in 0 = .ok (.iload_n 0, 1) := by decide +kernel
theorem dX12_in_1 : decode cX12_in 1 = .ok (.iload_n 1, 1) := by decide +kernel
theorem dX12_in_2 : decode cX12_in 2 = .ok (.if_icmp .lt 12, 3) := by decide +kernel
theorem dX12_in_5 : decode cX12_in 5 = .ok (.iload_n 0, 1) := by decide +kernel
theorem dX12_in_6 : decode cX12_in 6 = .ok (.iload_n 2, 1) := by decide +kernel
theorem dX12_in_7 : decode cX12_in 7 = .ok (.if_icmp .gt 7, 3) := by decide +kernel
theorem dX12_in_10 : decode cX12_in 10 = .ok (.iconst 1, 1) := by decide +kernel
theorem dX12_in_11 : decode cX12_in 11 = .ok (.goto 4, 3) := by decide +kernel
theorem dX12_in_14 : decode cX12_in 14 = .ok (.iconst 0, 1) := by decide +kernel
theorem dX12_in_15 : decode cX12_in 15 = .ok (.ireturn, 1) := by decide +kernel
theorem dX12_has_0 : decode cX12_has 0 = .ok (.iload_n 0, 1) := by decide +kernel
theorem dX12_has_1 : decode cX12_has 1 = .ok (.iload_n 1, 1) := by decide +kernel
theorem dX12_has_2 : decode cX12_has 2 = .ok (.ishr, 1) := by decide +kernel
theorem dX12_has_3 : decode cX12_has 3 = .ok (.iconst 1, 1) := by decide +kernel
theorem dX12_has_4 : decode cX12_has 4 = .ok (.iand, 1) := by decide +kernel
theorem dX12_has_5 : decode cX12_has 5 = .ok (.iconst 1, 1) := by decide +kernel
theorem dX12_has_6 : decode cX12_has 6 = .ok (.if_icmp .ne 7, 3) := by decide +kernel
theorem dX12_has_9 : decode cX12_has 9 = .ok (.iconst 1, 1) := by decide +kernel
theorem dX12_has_10 : decode cX12_has 10 = .ok (.goto 4, 3) := by decide +kernel
theorem dX12_has_13 : decode cX12_has 13 = .ok (.iconst 0, 1) := by decide +kernel
theorem dX12_has_14 : decode cX12_has 14 = .ok (.ireturn, 1) := by decide +kernel
theorem dX12_lost_0 : decode cX12_lost 0 = .ok (.aload_n 0, 1) := by decide +kernel
theorem dX12_lost_1 : decode cX12_lost 1 = .ok (.iconst 1, 1) := by decide +kernel
theorem dX12_lost_2 : decode cX12_lost 2 = .ok (.putfield 82, 3) := by decide +kernel
theorem dX12_lost_5 : decode cX12_lost 5 = .ok (.iconst 0, 1) := by decide +kernel
theorem dX12_lost_6 : decode cX12_lost 6 = .ok (.ireturn, 1) := by decide +kernel
theorem dX12_tell_0 : decode cX12_tell 0 = .ok (.aload_n 0, 1) := by decide +kernel
theorem dX12_tell_1 : decode cX12_tell 1 = .ok (.getfield 17, 3) := by decide +kernel
theorem dX12_tell_4 : decode cX12_tell 4 = .ok (.aload_n 0, 1) := by decide +kernel
theorem dX12_tell_5 : decode cX12_tell 5 = .ok (.getfield 86, 3) := by decide +kernel
theorem dX12_tell_8 : decode cX12_tell 8 = .ok (.lload_n 1, 1) := by decide +kernel
theorem dX12_tell_9 : decode cX12_tell 9 = .ok (.lastore, 1) := by decide +kernel
theorem dX12_tell_10 : decode cX12_tell 10 = .ok (.aload_n 0, 1) := by decide +kernel
theorem dX12_tell_11 : decode cX12_tell 11 = .ok (.dup, 1) := by decide +kernel
theorem dX12_tell_12 : decode cX12_tell 12 = .ok (.getfield 86, 3) := by decide +kernel
theorem dX12_tell_15 : decode cX12_tell 15 = .ok (.iconst 1, 1) := by decide +kernel
theorem dX12_tell_16 : decode cX12_tell 16 = .ok (.iadd, 1) := by decide +kernel
theorem dX12_tell_17 : decode cX12_tell 17 = .ok (.putfield 86, 3) := by decide +kernel
theorem dX12_tell_20 : decode cX12_tell 20 = .ok (.return_, 1) := by decide +kernel
theorem dX12_isParty_0 : decode cX12_isParty 0 = .ok (.iload_n 1, 1) := by decide +kernel
theorem dX12_isParty_1 : decode cX12_isParty 1 = .ok (.iconst 0, 1) := by decide +kernel
theorem dX12_isParty_2 : decode cX12_isParty 2 = .ok (.iconst 1, 1) := by decide +kernel
theorem dX12_isParty_3 : decode cX12_isParty 3 = .ok (.invokestatic 89, 3) := by decide +kernel
theorem dX12_isParty_6 : decode cX12_isParty 6 = .ok (.ifCond .eq 26, 3) := by decide +kernel
theorem dX12_isParty_9 : decode cX12_isParty 9 = .ok (.iload_n 2, 1) := by decide +kernel
theorem dX12_isParty_10 : decode cX12_isParty 10 = .ok (.iconst 0, 1) := by decide +kernel
theorem dX12_isParty_11 : decode cX12_isParty 11 = .ok (.aload_n 0, 1) := by decide +kernel
theorem dX12_isParty_12 : decode cX12_isParty 12 = .ok (.getfield 9, 3) := by decide +kernel
theorem dX12_isParty_15 : decode cX12_isParty 15 = .ok (.bipush 10, 2) := by decide +kernel
theorem dX12_isParty_17 : decode cX12_isParty 17 = .ok (.iload_n 1, 1) := by decide +kernel
theorem dX12_isParty_18 : decode cX12_isParty 18 = .ok (.iadd, 1) := by decide +kernel
theorem dX12_isParty_19 : decode cX12_isParty 19 = .ok (.iaload, 1) := by decide +kernel
theorem dX12_isParty_20 : decode cX12_isParty 20 = .ok (.iconst 1, 1) := by decide +kernel
theorem dX12_isParty_21 : decode cX12_isParty 21 = .ok (.isub, 1) := by decide +kernel
theorem dX12_isParty_22 : decode cX12_isParty 22 = .ok (.invokestatic 89, 3) := by decide +kernel
theorem dX12_isParty_25 : decode cX12_isParty 25 = .ok (.ifCond .eq 7, 3) := by decide +kernel
theorem dX12_isParty_28 : decode cX12_isParty 28 = .ok (.iconst 1, 1) := by decide +kernel
theorem dX12_isParty_29 : decode cX12_isParty 29 = .ok (.goto 4, 3) := by decide +kernel
theorem dX12_isParty_32 : decode cX12_isParty 32 = .ok (.iconst 0, 1) := by decide +kernel
theorem dX12_isParty_33 : decode cX12_isParty 33 = .ok (.ireturn, 1) := by decide +kernel
theorem dX12_waits_0 : decode cX12_waits 0 = .ok (.aload_n 0, 1) := by decide +kernel
theorem dX12_waits_1 : decode cX12_waits 1 = .ok (.bipush 10, 2) := by decide +kernel
theorem dX12_waits_3 : decode cX12_waits 3 = .ok (.iaload, 1) := by decide +kernel
theorem dX12_waits_4 : decode cX12_waits 4 = .ok (.aload_n 0, 1) := by decide +kernel
theorem dX12_waits_5 : decode cX12_waits 5 = .ok (.bipush 11, 2) := by decide +kernel
theorem dX12_waits_7 : decode cX12_waits 7 = .ok (.iaload, 1) := by decide +kernel
theorem dX12_waits_8 : decode cX12_waits 8 = .ok (.iadd, 1) := by decide +kernel
theorem dX12_waits_9 : decode cX12_waits 9 = .ok (.ireturn, 1) := by decide +kernel
theorem dX12_sign_0 : decode cX12_sign 0 = .ok (.aload_n 0, 1) := by decide +kernel
theorem dX12_sign_1 : decode cX12_sign 1 = .ok (.iconst 0, 1) := by decide +kernel
theorem dX12_sign_2 : decode cX12_sign 2 = .ok (.putfield 82, 3) := by decide +kernel
theorem dX12_sign_5 : decode cX12_sign 5 = .ok (.aload_n 0, 1) := by decide +kernel
theorem dX12_sign_6 : decode cX12_sign 6 = .ok (.getfield 93, 3) := by decide +kernel
theorem dX12_sign_9 : decode cX12_sign 9 = .ok (.iconst 4, 1) := by decide +kernel
theorem dX12_sign_10 : decode cX12_sign 10 = .ok (.iadd, 1) := by decide +kernel
theorem dX12_sign_11 : decode cX12_sign 11 = .ok (.bipush 80, 2) := by decide +kernel
theorem dX12_sign_13 : decode cX12_sign 13 = .ok (.if_icmp .le 5, 3) := by decide +kernel
theorem dX12_sign_16 : decode cX12_sign 16 = .ok (.iconst (-1), 1) := by decide +kernel
theorem dX12_sign_17 : decode cX12_sign 17 = .ok (.ireturn, 1) := by decide +kernel
theorem dX12_sign_18 : decode cX12_sign 18 = .ok (.iconst 3, 1) := by decide +kernel
theorem dX12_sign_19 : decode cX12_sign 19 = .ok (.istore_n 2, 1) := by decide +kernel
theorem dX12_sign_20 : decode cX12_sign 20 = .ok (.iload_n 2, 1) := by decide +kernel
theorem dX12_sign_21 : decode cX12_sign 21 = .ok (.ifCond .lt 32, 3) := by decide +kernel
theorem dX12_sign_24 : decode cX12_sign 24 = .ok (.aload_n 0, 1) := by decide +kernel
theorem dX12_sign_25 : decode cX12_sign 25 = .ok (.getfield 13, 3) := by decide +kernel
theorem dX12_sign_28 : decode cX12_sign 28 = .ok (.aload_n 0, 1) := by decide +kernel
theorem dX12_sign_29 : decode cX12_sign 29 = .ok (.dup, 1) := by decide +kernel
theorem dX12_sign_30 : decode cX12_sign 30 = .ok (.getfield 93, 3) := by decide +kernel
theorem dX12_sign_33 : decode cX12_sign 33 = .ok (.dup_x1, 1) := by decide +kernel
theorem dX12_sign_34 : decode cX12_sign 34 = .ok (.iconst 1, 1) := by decide +kernel
theorem dX12_sign_35 : decode cX12_sign 35 = .ok (.iadd, 1) := by decide +kernel
theorem dX12_sign_36 : decode cX12_sign 36 = .ok (.putfield 93, 3) := by decide +kernel
theorem dX12_sign_39 : decode cX12_sign 39 = .ok (.iload_n 1, 1) := by decide +kernel
theorem dX12_sign_40 : decode cX12_sign 40 = .ok (.bipush 8, 2) := by decide +kernel
theorem dX12_sign_42 : decode cX12_sign 42 = .ok (.iload_n 2, 1) := by decide +kernel
theorem dX12_sign_43 : decode cX12_sign 43 = .ok (.imul, 1) := by decide +kernel
theorem dX12_sign_44 : decode cX12_sign 44 = .ok (.ishr, 1) := by decide +kernel
theorem dX12_sign_45 : decode cX12_sign 45 = .ok (.i2b, 1) := by decide +kernel
theorem dX12_sign_46 : decode cX12_sign 46 = .ok (.bastore, 1) := by decide +kernel
theorem dX12_sign_47 : decode cX12_sign 47 = .ok (.iinc 2 (-1), 3) := by decide +kernel
theorem dX12_sign_50 : decode cX12_sign 50 = .ok (.goto (-30), 3) := by decide +kernel
theorem dX12_sign_53 : decode cX12_sign 53 = .ok (.aload_n 0, 1) := by decide +kernel
theorem dX12_sign_54 : decode cX12_sign 54 = .ok (.getfield 93, 3) := by decide +kernel
theorem dX12_sign_57 : decode cX12_sign 57 = .ok (.ireturn, 1) := by decide +kernel
theorem dX12_end_0 : decode cX12_end 0 = .ok (.aload_n 0, 1) := by decide +kernel
theorem dX12_end_1 : decode cX12_end 1 = .ok (.iconst 0, 1) := by decide +kernel
theorem dX12_end_2 : decode cX12_end 2 = .ok (.putfield 82, 3) := by decide +kernel
theorem dX12_end_5 : decode cX12_end 5 = .ok (.iload_n 1, 1) := by decide +kernel
theorem dX12_end_6 : decode cX12_end 6 = .ok (.iconst 0, 1) := by decide +kernel
theorem dX12_end_7 : decode cX12_end 7 = .ok (.aload_n 0, 1) := by decide +kernel
theorem dX12_end_8 : decode cX12_end 8 = .ok (.getfield 93, 3) := by decide +kernel
theorem dX12_end_11 : decode cX12_end 11 = .ok (.invokestatic 89, 3) := by decide +kernel
theorem dX12_end_14 : decode cX12_end 14 = .ok (.ifCond .ne 5, 3) := by decide +kernel
theorem dX12_end_17 : decode cX12_end 17 = .ok (.iconst 0, 1) := by decide +kernel
theorem dX12_end_18 : decode cX12_end 18 = .ok (.ireturn, 1) := by decide +kernel
theorem dX12_end_19 : decode cX12_end 19 = .ok (.aload_n 0, 1) := by decide +kernel
theorem dX12_end_20 : decode cX12_end 20 = .ok (.iload_n 1, 1) := by decide +kernel
theorem dX12_end_21 : decode cX12_end 21 = .ok (.putfield 93, 3) := by decide +kernel
theorem dX12_end_24 : decode cX12_end 24 = .ok (.iconst 1, 1) := by decide +kernel
theorem dX12_end_25 : decode cX12_end 25 = .ok (.ireturn, 1) := by decide +kernel
theorem dX12_begin_0 : decode cX12_begin 0 = .ok (.aload_n 0, 1) := by decide +kernel
theorem dX12_begin_1 : decode cX12_begin 1 = .ok (.aload_n 1, 1) := by decide +kernel
theorem dX12_begin_2 : decode cX12_begin 2 = .ok (.putfield 96, 3) := by decide +kernel
theorem dX12_begin_5 : decode cX12_begin 5 = .ok (.aload_n 0, 1) := by decide +kernel
theorem dX12_begin_6 : decode cX12_begin 6 = .ok (.iload_n 2, 1) := by decide +kernel
theorem dX12_begin_7 : decode cX12_begin 7 = .ok (.putfield 99, 3) := by decide +kernel
theorem dX12_begin_10 : decode cX12_begin 10 = .ok (.aload_n 0, 1) := by decide +kernel
theorem dX12_begin_11 : decode cX12_begin 11 = .ok (.iload_n 3, 1) := by decide +kernel
theorem dX12_begin_12 : decode cX12_begin 12 = .ok (.putfield 102, 3) := by decide +kernel
theorem dX12_begin_15 : decode cX12_begin 15 = .ok (.aload_n 0, 1) := by decide +kernel
theorem dX12_begin_16 : decode cX12_begin 16 = .ok (.iconst 0, 1) := by decide +kernel
theorem dX12_begin_17 : decode cX12_begin 17 = .ok (.putfield 105, 3) := by decide +kernel
theorem dX12_begin_20 : decode cX12_begin 20 = .ok (.aload_n 0, 1) := by decide +kernel
theorem dX12_begin_21 : decode cX12_begin 21 = .ok (.iconst (-1), 1) := by decide +kernel
theorem dX12_begin_22 : decode cX12_begin 22 = .ok (.putfield 108, 3) := by decide +kernel
theorem dX12_begin_25 : decode cX12_begin 25 = .ok (.return_, 1) := by decide +kernel
theorem dX12_beginText_0 : decode cX12_beginText 0 = .ok (.aload_n 0, 1) := by decide +kernel
theorem dX12_beginText_1 : decode cX12_beginText 1 = .ok (.aload_n 0, 1) := by decide +kernel
theorem dX12_beginText_2 : decode cX12_beginText 2 = .ok (.getfield 13, 3) := by decide +kernel
theorem dX12_beginText_5 : decode cX12_beginText 5 = .ok (.aload_n 0, 1) := by decide +kernel
theorem dX12_beginText_6 : decode cX12_beginText 6 = .ok (.getfield 93, 3) := by decide +kernel
theorem dX12_beginText_9 : decode cX12_beginText 9 = .ok (.iload_n 1, 1) := by decide +kernel
theorem dX12_beginText_10 : decode cX12_beginText 10 = .ok (.invokevirtual 111, 3) := by decide +kernel
theorem dX12_beginText_13 : decode cX12_beginText 13 = .ok (.aload_n 0, 1) := by decide +kernel
theorem dX12_beginText_14 : decode cX12_beginText 14 = .ok (.iconst 0, 1) := by decide +kernel
theorem dX12_beginText_15 : decode cX12_beginText 15 = .ok (.putfield 93, 3) := by decide +kernel
theorem dX12_beginText_18 : decode cX12_beginText 18 = .ok (.return_, 1) := by decide +kernel
theorem dX12_here_0 : decode cX12_here 0 = .ok (.aload_n 0, 1) := by decide +kernel
theorem dX12_here_1 : decode cX12_here 1 = .ok (.getfield 105, 3) := by decide +kernel
theorem dX12_here_4 : decode cX12_here 4 = .ok (.aload_n 0, 1) := by decide +kernel
theorem dX12_here_5 : decode cX12_here 5 = .ok (.getfield 99, 3) := by decide +kernel
theorem dX12_here_8 : decode cX12_here 8 = .ok (.if_icmp .ge 30, 3) := by decide +kernel
theorem dX12_here_11 : decode cX12_here 11 = .ok (.aload_n 0, 1) := by decide +kernel
theorem dX12_here_12 : decode cX12_here 12 = .ok (.getfield 105, 3) := by decide +kernel
theorem dX12_here_15 : decode cX12_here 15 = .ok (.aload_n 0, 1) := by decide +kernel
theorem dX12_here_16 : decode cX12_here 16 = .ok (.getfield 102, 3) := by decide +kernel
theorem dX12_here_19 : decode cX12_here 19 = .ok (.if_icmp .ge 19, 3) := by decide +kernel
theorem dX12_here_22 : decode cX12_here 22 = .ok (.aload_n 0, 1) := by decide +kernel
theorem dX12_here_23 : decode cX12_here 23 = .ok (.getfield 96, 3) := by decide +kernel
theorem dX12_here_26 : decode cX12_here 26 = .ok (.aload_n 0, 1) := by decide +kernel
theorem dX12_here_27 : decode cX12_here 27 = .ok (.getfield 105, 3) := by decide +kernel
theorem dX12_here_30 : decode cX12_here 30 = .ok (.baload, 1) := by decide +kernel
theorem dX12_here_31 : decode cX12_here 31 = .ok (.sipush 255, 3) := by decide +kernel
theorem dX12_here_34 : decode cX12_here 34 = .ok (.iand, 1) := by decide +kernel
theorem dX12_here_35 : decode cX12_here 35 = .ok (.goto 4, 3) := by decide +kernel
theorem dX12_here_38 : decode cX12_here 38 = .ok (.iconst (-1), 1) := by decide +kernel
theorem dX12_here_39 : decode cX12_here 39 = .ok (.ireturn, 1) := by decide +kernel
theorem dX12_fine_0 : decode cX12_fine 0 = .ok (.aload_n 0, 1) := by decide +kernel
theorem dX12_fine_1 : decode cX12_fine 1 = .ok (.getfield 108, 3) := by decide +kernel
theorem dX12_fine_4 : decode cX12_fine 4 = .ok (.iconst (-1), 1) := by decide +kernel
theorem dX12_fine_5 : decode cX12_fine 5 = .ok (.if_icmp .ne 7, 3) := by decide +kernel
theorem dX12_fine_8 : decode cX12_fine 8 = .ok (.iconst 1, 1) := by decide +kernel
theorem dX12_fine_9 : decode cX12_fine 9 = .ok (.goto 4, 3) := by decide +kernel
theorem dX12_fine_12 : decode cX12_fine 12 = .ok (.iconst 0, 1) := by decide +kernel
theorem dX12_fine_13 : decode cX12_fine 13 = .ok (.ireturn, 1) := by decide +kernel
theorem dX12_fault_0 : decode cX12_fault 0 = .ok (.aload_n 0, 1) := by decide +kernel
theorem dX12_fault_1 : decode cX12_fault 1 = .ok (.invokevirtual 115, 3) := by decide +kernel
theorem dX12_fault_4 : decode cX12_fault 4 = .ok (.ifCond .eq 8, 3) := by decide +kernel
theorem dX12_fault_7 : decode cX12_fault 7 = .ok (.aload_n 0, 1) := by decide +kernel
theorem dX12_fault_8 : decode cX12_fault 8 = .ok (.iload_n 1, 1) := by decide +kernel
theorem dX12_fault_9 : decode cX12_fault 9 = .ok (.putfield 108, 3) := by decide +kernel
theorem dX12_fault_12 : decode cX12_fault 12 = .ok (.return_, 1) := by decide +kernel
theorem dX12_passes_0 : decode cX12_passes 0 = .ok (.aload_n 0, 1) := by decide +kernel
theorem dX12_passes_1 : decode cX12_passes 1 = .ok (.invokevirtual 115, 3) := by decide +kernel
theorem dX12_passes_4 : decode cX12_passes 4 = .ok (.ifCond .eq 11, 3) := by decide +kernel
theorem dX12_passes_7 : decode cX12_passes 7 = .ok (.aload_n 0, 1) := by decide +kernel
theorem dX12_passes_8 : decode cX12_passes 8 = .ok (.invokevirtual 119, 3) := by decide +kernel
theorem dX12_passes_11 : decode cX12_passes 11 = .ok (.iload_n 1, 1) := by decide +kernel
theorem dX12_passes_12 : decode cX12_passes 12 = .ok (.if_icmp .eq 5, 3) := by decide +kernel
theorem dX12_passes_15 : decode cX12_passes 15 = .ok (.iconst 0, 1) := by decide +kernel
theorem dX12_passes_16 : decode cX12_passes 16 = .ok (.ireturn, 1) := by decide +kernel
theorem dX12_passes_17 : decode cX12_passes 17 = .ok (.aload_n 0, 1) := by decide +kernel
theorem dX12_passes_18 : decode cX12_passes 18 = .ok (.dup, 1) := by decide +kernel
theorem dX12_passes_19 : decode cX12_passes 19 = .ok (.getfield 105, 3) := by decide +kernel
theorem dX12_passes_22 : decode cX12_passes 22 = .ok (.iconst 1, 1) := by decide +kernel
theorem dX12_passes_23 : decode cX12_passes 23 = .ok (.iadd, 1) := by decide +kernel
theorem dX12_passes_24 : decode cX12_passes 24 = .ok (.putfield 105, 3) := by decide +kernel
theorem dX12_passes_27 : decode cX12_passes 27 = .ok (.iconst 1, 1) := by decide +kernel
theorem dX12_passes_28 : decode cX12_passes 28 = .ok (.ireturn, 1) := by decide +kernel
theorem dX12_need_0 : decode cX12_need 0 = .ok (.aload_n 0, 1) := by decide +kernel
theorem dX12_need_1 : decode cX12_need 1 = .ok (.iload_n 1, 1) := by decide +kernel
theorem dX12_need_2 : decode cX12_need 2 = .ok (.invokevirtual 123, 3) := by decide +kernel
theorem dX12_need_5 : decode cX12_need 5 = .ok (.ifCond .ne 11, 3) := by decide +kernel
theorem dX12_need_8 : decode cX12_need 8 = .ok (.aload_n 0, 1) := by decide +kernel
theorem dX12_need_9 : decode cX12_need 9 = .ok (.aload_n 0, 1) := by decide +kernel
theorem dX12_need_10 : decode cX12_need 10 = .ok (.getfield 105, 3) := by decide +kernel
theorem dX12_need_13 : decode cX12_need 13 = .ok (.invokevirtual 127, 3) := by decide +kernel
theorem dX12_need_16 : decode cX12_need 16 = .ok (.return_, 1) := by decide +kernel
theorem dX12_oneOf_0 : decode cX12_oneOf 0 = .ok (.aload_n 0, 1) := by decide +kernel
theorem dX12_oneOf_1 : decode cX12_oneOf 1 = .ok (.invokevirtual 115, 3) := by decide +kernel
theorem dX12_oneOf_4 : decode cX12_oneOf 4 = .ok (.ifCond .ne 5, 3) := by decide +kernel
theorem dX12_oneOf_7 : decode cX12_oneOf 7 = .ok (.iconst 0, 1) := by decide +kernel
theorem dX12_oneOf_8 : decode cX12_oneOf 8 = .ok (.ireturn, 1) := by decide +kernel
theorem dX12_oneOf_9 : decode cX12_oneOf 9 = .ok (.aload_n 0, 1) := by decide +kernel
theorem dX12_oneOf_10 : decode cX12_oneOf 10 = .ok (.invokevirtual 119, 3) := by decide +kernel
theorem dX12_oneOf_13 : decode cX12_oneOf 13 = .ok (.iload_n 1, 1) := by decide +kernel
theorem dX12_oneOf_14 : decode cX12_oneOf 14 = .ok (.iload_n 1, 1) := by decide +kernel
theorem dX12_oneOf_15 : decode cX12_oneOf 15 = .ok (.iload_n 2, 1) := by decide +kernel
theorem dX12_oneOf_16 : decode cX12_oneOf 16 = .ok (.iadd, 1) := by decide +kernel
theorem dX12_oneOf_17 : decode cX12_oneOf 17 = .ok (.iconst 1, 1) := by decide +kernel
theorem dX12_oneOf_18 : decode cX12_oneOf 18 = .ok (.isub, 1) := by decide +kernel
theorem dX12_oneOf_19 : decode cX12_oneOf 19 = .ok (.invokestatic 89, 3) := by decide +kernel
theorem dX12_oneOf_22 : decode cX12_oneOf 22 = .ok (.ifCond .ne 13, 3) := by decide +kernel
theorem dX12_oneOf_25 : decode cX12_oneOf 25 = .ok (.aload_n 0, 1) := by decide +kernel
theorem dX12_oneOf_26 : decode cX12_oneOf 26 = .ok (.aload_n 0, 1) := by decide +kernel
theorem dX12_oneOf_27 : decode cX12_oneOf 27 = .ok (.getfield 105, 3) := by decide +kernel
theorem dX12_oneOf_30 : decode cX12_oneOf 30 = .ok (.invokevirtual 127, 3) := by decide +kernel
theorem dX12_oneOf_33 : decode cX12_oneOf 33 = .ok (.iconst 0, 1) := by decide +kernel
theorem dX12_oneOf_34 : decode cX12_oneOf 34 = .ok (.ireturn, 1) := by decide +kernel
theorem dX12_oneOf_35 : decode cX12_oneOf 35 = .ok (.aload_n 0, 1) := by decide +kernel
theorem dX12_oneOf_36 : decode cX12_oneOf 36 = .ok (.dup, 1) := by decide +kernel
theorem dX12_oneOf_37 : decode cX12_oneOf 37 = .ok (.getfield 105, 3) := by decide +kernel
theorem dX12_oneOf_40 : decode cX12_oneOf 40 = .ok (.iconst 1, 1) := by decide +kernel
theorem dX12_oneOf_41 : decode cX12_oneOf 41 = .ok (.iadd, 1) := by decide +kernel
theorem dX12_oneOf_42 : decode cX12_oneOf 42 = .ok (.putfield 105, 3) := by decide +kernel
theorem dX12_oneOf_45 : decode cX12_oneOf 45 = .ok (.aload_n 0, 1) := by decide +kernel
theorem dX12_oneOf_46 : decode cX12_oneOf 46 = .ok (.getfield 96, 3) := by decide +kernel
theorem dX12_oneOf_49 : decode cX12_oneOf 49 = .ok (.aload_n 0, 1) := by decide +kernel
theorem dX12_oneOf_50 : decode cX12_oneOf 50 = .ok (.getfield 105, 3) := by decide +kernel
theorem dX12_oneOf_53 : decode cX12_oneOf 53 = .ok (.iconst 1, 1) := by decide +kernel
theorem dX12_oneOf_54 : decode cX12_oneOf 54 = .ok (.isub, 1) := by decide +kernel
theorem dX12_oneOf_55 : decode cX12_oneOf 55 = .ok (.baload, 1) := by decide +kernel
theorem dX12_oneOf_56 : decode cX12_oneOf 56 = .ok (.iload_n 1, 1) := by decide +kernel
theorem dX12_oneOf_57 : decode cX12_oneOf 57 = .ok (.isub, 1) := by decide +kernel
theorem dX12_oneOf_58 : decode cX12_oneOf 58 = .ok (.ireturn, 1) := by decide +kernel
theorem dX12_number_0 : decode cX12_number 0 = .ok (.aload_n 0, 1) := by decide +kernel
theorem dX12_number_1 : decode cX12_number 1 = .ok (.bipush 48, 2) := by decide +kernel
theorem dX12_number_3 : decode cX12_number 3 = .ok (.bipush 10, 2) := by decide +kernel
theorem dX12_number_5 : decode cX12_number 5 = .ok (.invokevirtual 131, 3) := by decide +kernel
theorem dX12_number_8 : decode cX12_number 8 = .ok (.istore_n 2, 1) := by decide +kernel
theorem dX12_number_9 : decode cX12_number 9 = .ok (.iconst 1, 1) := by decide +kernel
theorem dX12_number_10 : decode cX12_number 10 = .ok (.istore_n 3, 1) := by decide +kernel
theorem dX12_number_11 : decode cX12_number 11 = .ok (.iload_n 3, 1) := by decide +kernel
theorem dX12_number_12 : decode cX12_number 12 = .ok (.iload_n 1, 1) := by decide +kernel
theorem dX12_number_13 : decode cX12_number 13 = .ok (.if_icmp .ge 44, 3) := by decide +kernel
theorem dX12_number_16 : decode cX12_number 16 = .ok (.aload_n 0, 1) := by decide +kernel
theorem dX12_number_17 : decode cX12_number 17 = .ok (.invokevirtual 115, 3) := by decide +kernel
theorem dX12_number_20 : decode cX12_number 20 = .ok (.ifCond .eq 37, 3) := by decide +kernel
theorem dX12_number_23 : decode cX12_number 23 = .ok (.aload_n 0, 1) := by decide +kernel
theorem dX12_number_24 : decode cX12_number 24 = .ok (.invokevirtual 119, 3) := by decide +kernel
theorem dX12_number_27 : decode cX12_number 27 = .ok (.bipush 48, 2) := by decide +kernel
theorem dX12_number_29 : decode cX12_number 29 = .ok (.bipush 57, 2) := by decide +kernel
theorem dX12_number_31 : decode cX12_number 31 = .ok (.invokestatic 89, 3) := by decide +kernel
theorem dX12_number_34 : decode cX12_number 34 = .ok (.ifCond .eq 23, 3) := by decide +kernel
theorem dX12_number_37 : decode cX12_number 37 = .ok (.bipush 10, 2) := by decide +kernel
theorem dX12_number_39 : decode cX12_number 39 = .ok (.iload_n 2, 1) := by decide +kernel
theorem dX12_number_40 : decode cX12_number 40 = .ok (.imul, 1) := by decide +kernel
theorem dX12_number_41 : decode cX12_number 41 = .ok (.aload_n 0, 1) := by decide +kernel
theorem dX12_number_42 : decode cX12_number 42 = .ok (.bipush 48, 2) := by decide +kernel
theorem dX12_number_44 : decode cX12_number 44 = .ok (.bipush 10, 2) := by decide +kernel
theorem dX12_number_46 : decode cX12_number 46 = .ok (.invokevirtual 131, 3) := by decide +kernel
theorem dX12_number_49 : decode cX12_number 49 = .ok (.iadd, 1) := by decide +kernel
theorem dX12_number_50 : decode cX12_number 50 = .ok (.istore_n 2, 1) := by decide +kernel
theorem dX12_number_51 : decode cX12_number 51 = .ok (.iinc 3 1, 3) := by decide +kernel
theorem dX12_number_54 : decode cX12_number 54 = .ok (.goto (-43), 3) := by decide +kernel
theorem dX12_number_57 : decode cX12_number 57 = .ok (.iload_n 2, 1) := by decide +kernel
theorem dX12_number_58 : decode cX12_number 58 = .ok (.ireturn, 1) := by decide +kernel
theorem dX12_wasRight_0 : decode cX12_wasRight 0 = .ok (.aload_n 0, 1) := by decide +kernel
theorem dX12_wasRight_1 : decode cX12_wasRight 1 = .ok (.getfield 105, 3) := by decide +kernel
theorem dX12_wasRight_4 : decode cX12_wasRight 4 = .ok (.aload_n 0, 1) := by decide +kernel
theorem dX12_wasRight_5 : decode cX12_wasRight 5 = .ok (.getfield 99, 3) := by decide +kernel
theorem dX12_wasRight_8 : decode cX12_wasRight 8 = .ok (.if_icmp .ge 11, 3) := by decide +kernel
theorem dX12_wasRight_11 : decode cX12_wasRight 11 = .ok (.aload_n 0, 1) := by decide +kernel
theorem dX12_wasRight_12 : decode cX12_wasRight 12 = .ok (.aload_n 0, 1) := by decide +kernel
theorem dX12_wasRight_13 : decode cX12_wasRight 13 = .ok (.getfield 105, 3) := by decide +kernel
theorem dX12_wasRight_16 : decode cX12_wasRight 16 = .ok (.invokevirtual 127, 3) := by decide +kernel
theorem dX12_wasRight_19 : decode cX12_wasRight 19 = .ok (.aload_n 0, 1) := by decide +kernel
theorem dX12_wasRight_20 : decode cX12_wasRight 20 = .ok (.invokevirtual 115, 3) := by decide +kernel
theorem dX12_wasRight_23 : decode cX12_wasRight 23 = .ok (.ireturn, 1) := by decide +kernel
theorem dX12_readSide_0 : decode cX12_readSide 0 = .ok (.aload_n 0, 1) := by decide +kernel
theorem dX12_readSide_1 : decode cX12_readSide 1 = .ok (.getfield 9, 3) := by decide +kernel
theorem dX12_readSide_4 : decode cX12_readSide 4 = .ok (.bipush 10, 2) := by decide +kernel
theorem dX12_readSide_6 : decode cX12_readSide 6 = .ok (.iload_n 1, 1) := by decide +kernel
theorem dX12_readSide_7 : decode cX12_readSide 7 = .ok (.iadd, 1) := by decide +kernel
theorem dX12_readSide_8 : decode cX12_readSide 8 = .ok (.iaload, 1) := by decide +kernel
theorem dX12_readSide_9 : decode cX12_readSide 9 = .ok (.aload_n 0, 1) := by decide +kernel
theorem dX12_readSide_10 : decode cX12_readSide 10 = .ok (.getfield 24, 3) := by decide +kernel
theorem dX12_readSide_13 : decode cX12_readSide 13 = .ok (.iload_n 1, 1) := by decide +kernel
theorem dX12_readSide_14 : decode cX12_readSide 14 = .ok (.iaload, 1) := by decide +kernel
theorem dX12_readSide_15 : decode cX12_readSide 15 = .ok (.iadd, 1) := by decide +kernel
theorem dX12_readSide_16 : decode cX12_readSide 16 = .ok (.iconst 5, 1) := by decide +kernel
theorem dX12_readSide_17 : decode cX12_readSide 17 = .ok (.if_icmp .ne 12, 3) := by decide +kernel
theorem dX12_readSide_20 : decode cX12_readSide 20 = .ok (.aload_n 0, 1) := by decide +kernel
theorem dX12_readSide_21 : decode cX12_readSide 21 = .ok (.aload_n 0, 1) := by decide +kernel
theorem dX12_readSide_22 : decode cX12_readSide 22 = .ok (.getfield 105, 3) := by decide +kernel
theorem dX12_readSide_25 : decode cX12_readSide 25 = .ok (.invokevirtual 127, 3) := by decide +kernel
theorem dX12_readSide_28 : decode cX12_readSide 28 = .ok (.return_, 1) := by decide +kernel
theorem dX12_readSide_29 : decode cX12_readSide 29 = .ok (.aload_n 0, 1) := by decide +kernel
theorem dX12_readSide_30 : decode cX12_readSide 30 = .ok (.bipush 49, 2) := by decide +kernel
theorem dX12_readSide_32 : decode cX12_readSide 32 = .ok (.bipush 9, 2) := by decide +kernel
theorem dX12_readSide_34 : decode cX12_readSide 34 = .ok (.invokevirtual 131, 3) := by decide +kernel
theorem dX12_readSide_37 : decode cX12_readSide 37 = .ok (.iconst 1, 1) := by decide +kernel
theorem dX12_readSide_38 : decode cX12_readSide 38 = .ok (.iadd, 1) := by decide +kernel
theorem dX12_readSide_39 : decode cX12_readSide 39 = .ok (.istore_n 2, 1) := by decide +kernel
theorem dX12_readSide_40 : decode cX12_readSide 40 = .ok (.aload_n 0, 1) := by decide +kernel
theorem dX12_readSide_41 : decode cX12_readSide 41 = .ok (.invokevirtual 115, 3) := by decide +kernel
theorem dX12_readSide_44 : decode cX12_readSide 44 = .ok (.ifCond .ne 4, 3) := by decide +kernel
theorem dX12_readSide_47 : decode cX12_readSide 47 = .ok (.return_, 1) := by decide +kernel
theorem dX12_readSide_48 : decode cX12_readSide 48 = .ok (.aload_n 0, 1) := by decide +kernel
theorem dX12_readSide_49 : decode cX12_readSide 49 = .ok (.getfield 21, 3) := by decide +kernel
theorem dX12_readSide_52 : decode cX12_readSide 52 = .ok (.iconst 5, 1) := by decide +kernel
theorem dX12_readSide_53 : decode cX12_readSide 53 = .ok (.iload_n 1, 1) := by decide +kernel
theorem dX12_readSide_54 : decode cX12_readSide 54 = .ok (.imul, 1) := by decide +kernel
theorem dX12_readSide_55 : decode cX12_readSide 55 = .ok (.aload_n 0, 1) := by decide +kernel
theorem dX12_readSide_56 : decode cX12_readSide 56 = .ok (.getfield 24, 3) := by decide +kernel
theorem dX12_readSide_59 : decode cX12_readSide 59 = .ok (.iload_n 1, 1) := by decide +kernel
theorem dX12_readSide_60 : decode cX12_readSide 60 = .ok (.iaload, 1) := by decide +kernel
theorem dX12_readSide_61 : decode cX12_readSide 61 = .ok (.iadd, 1) := by decide +kernel
theorem dX12_readSide_62 : decode cX12_readSide 62 = .ok (.iload_n 2, 1) := by decide +kernel
theorem dX12_readSide_63 : decode cX12_readSide 63 = .ok (.iastore, 1) := by decide +kernel
theorem dX12_readSide_64 : decode cX12_readSide 64 = .ok (.aload_n 0, 1) := by decide +kernel
theorem dX12_readSide_65 : decode cX12_readSide 65 = .ok (.getfield 24, 3) := by decide +kernel
theorem dX12_readSide_68 : decode cX12_readSide 68 = .ok (.iload_n 1, 1) := by decide +kernel
theorem dX12_readSide_69 : decode cX12_readSide 69 = .ok (.dup2, 1) := by decide +kernel
theorem dX12_readSide_70 : decode cX12_readSide 70 = .ok (.iaload, 1) := by decide +kernel
theorem dX12_readSide_71 : decode cX12_readSide 71 = .ok (.iconst 1, 1) := by decide +kernel
theorem dX12_readSide_72 : decode cX12_readSide 72 = .ok (.iadd, 1) := by decide +kernel
theorem dX12_readSide_73 : decode cX12_readSide 73 = .ok (.iastore, 1) := by decide +kernel
theorem dX12_readSide_74 : decode cX12_readSide 74 = .ok (.return_, 1) := by decide +kernel
theorem dX12_parties_0 : decode cX12_parties 0 = .ok (.aload_n 0, 1) := by decide +kernel
theorem dX12_parties_1 : decode cX12_parties 1 = .ok (.iconst 0, 1) := by decide +kernel
theorem dX12_parties_2 : decode cX12_parties 2 = .ok (.putfield 82, 3) := by decide +kernel
theorem dX12_parties_5 : decode cX12_parties 5 = .ok (.aload_n 0, 1) := by decide +kernel
theorem dX12_parties_6 : decode cX12_parties 6 = .ok (.bipush 11, 2) := by decide +kernel
theorem dX12_parties_8 : decode cX12_parties 8 = .ok (.invokevirtual 135, 3) := by decide +kernel
theorem dX12_parties_11 : decode cX12_parties 11 = .ok (.aload_n 0, 1) := by decide +kernel
theorem dX12_parties_12 : decode cX12_parties 12 = .ok (.getfield 24, 3) := by decide +kernel
theorem dX12_parties_15 : decode cX12_parties 15 = .ok (.iconst 0, 1) := by decide +kernel
theorem dX12_parties_16 : decode cX12_parties 16 = .ok (.iconst 0, 1) := by decide +kernel
theorem dX12_parties_17 : decode cX12_parties 17 = .ok (.iastore, 1) := by decide +kernel
theorem dX12_parties_18 : decode cX12_parties 18 = .ok (.aload_n 0, 1) := by decide +kernel
theorem dX12_parties_19 : decode cX12_parties 19 = .ok (.getfield 24, 3) := by decide +kernel
theorem dX12_parties_22 : decode cX12_parties 22 = .ok (.iconst 1, 1) := by decide +kernel
theorem dX12_parties_23 : decode cX12_parties 23 = .ok (.iconst 0, 1) := by decide +kernel
theorem dX12_parties_24 : decode cX12_parties 24 = .ok (.iastore, 1) := by decide +kernel
theorem dX12_parties_25 : decode cX12_parties 25 = .ok (.aload_n 0, 1) := by decide +kernel
theorem dX12_parties_26 : decode cX12_parties 26 = .ok (.getfield 99, 3) := by decide +kernel
theorem dX12_parties_29 : decode cX12_parties 29 = .ok (.ifCond .ne 5, 3) := by decide +kernel
theorem dX12_parties_32 : decode cX12_parties 32 = .ok (.iconst 0, 1) := by decide +kernel
theorem dX12_parties_33 : decode cX12_parties 33 = .ok (.ireturn, 1) := by decide +kernel
theorem dX12_parties_34 : decode cX12_parties 34 = .ok (.aload_n 0, 1) := by decide +kernel
theorem dX12_parties_35 : decode cX12_parties 35 = .ok (.invokevirtual 115, 3) := by decide +kernel
theorem dX12_parties_38 : decode cX12_parties 38 = .ok (.ifCond .eq 28, 3) := by decide +kernel
theorem dX12_parties_41 : decode cX12_parties 41 = .ok (.aload_n 0, 1) := by decide +kernel
theorem dX12_parties_42 : decode cX12_parties 42 = .ok (.invokevirtual 119, 3) := by decide +kernel
theorem dX12_parties_45 : decode cX12_parties 45 = .ok (.iconst (-1), 1) := by decide +kernel
theorem dX12_parties_46 : decode cX12_parties 46 = .ok (.if_icmp .eq 20, 3) := by decide +kernel
theorem dX12_parties_49 : decode cX12_parties 49 = .ok (.aload_n 0, 1) := by decide +kernel
theorem dX12_parties_50 : decode cX12_parties 50 = .ok (.invokevirtual 119, 3) := by decide +kernel
theorem dX12_parties_53 : decode cX12_parties 53 = .ok (.bipush 47, 2) := by decide +kernel
theorem dX12_parties_55 : decode cX12_parties 55 = .ok (.if_icmp .eq 11, 3) := by decide +kernel
theorem dX12_parties_58 : decode cX12_parties 58 = .ok (.aload_n 0, 1) := by decide +kernel
theorem dX12_parties_59 : decode cX12_parties 59 = .ok (.iconst 0, 1) := by decide +kernel
theorem dX12_parties_60 : decode cX12_parties 60 = .ok (.invokevirtual 138, 3) := by decide +kernel
theorem dX12_parties_63 : decode cX12_parties 63 = .ok (.goto (-29), 3) := by decide +kernel
theorem dX12_parties_66 : decode cX12_parties 66 = .ok (.aload_n 0, 1) := by decide +kernel
theorem dX12_parties_67 : decode cX12_parties 67 = .ok (.invokevirtual 115, 3) := by decide +kernel
theorem dX12_parties_70 : decode cX12_parties 70 = .ok (.ifCond .eq 16, 3) := by decide +kernel
theorem dX12_parties_73 : decode cX12_parties 73 = .ok (.aload_n 0, 1) := by decide +kernel
theorem dX12_parties_74 : decode cX12_parties 74 = .ok (.bipush 47, 2) := by decide +kernel
theorem dX12_parties_76 : decode cX12_parties 76 = .ok (.invokevirtual 123, 3) := by decide +kernel
theorem dX12_parties_79 : decode cX12_parties 79 = .ok (.ifCond .eq 7, 3) := by decide +kernel
theorem dX12_parties_82 : decode cX12_parties 82 = .ok (.aload_n 0, 1) := by decide +kernel
theorem dX12_parties_83 : decode cX12_parties 83 = .ok (.invokevirtual 141, 3) := by decide +kernel
theorem dX12_parties_86 : decode cX12_parties 86 = .ok (.aload_n 0, 1) := by decide +kernel
theorem dX12_parties_87 : decode cX12_parties 87 = .ok (.invokevirtual 144, 3) := by decide +kernel
theorem dX12_parties_90 : decode cX12_parties 90 = .ok (.ifCond .ne 10, 3) := by decide +kernel
theorem dX12_parties_93 : decode cX12_parties 93 = .ok (.iconst (-1), 1) := by decide +kernel
theorem dX12_parties_94 : decode cX12_parties 94 = .ok (.aload_n 0, 1) := by decide +kernel
theorem dX12_parties_95 : decode cX12_parties 95 = .ok (.getfield 108, 3) := by decide +kernel
theorem dX12_parties_98 : decode cX12_parties 98 = .ok (.isub, 1) := by decide +kernel
theorem dX12_parties_99 : decode cX12_parties 99 = .ok (.ireturn, 1) := by decide +kernel
theorem dX12_parties_100 : decode cX12_parties 100 = .ok (.iconst 0, 1) := by decide +kernel
theorem dX12_parties_101 : decode cX12_parties 101 = .ok (.istore_n 1, 1) := by decide +kernel
theorem dX12_parties_102 : decode cX12_parties 102 = .ok (.iload_n 1, 1) := by decide +kernel
theorem dX12_parties_103 : decode cX12_parties 103 = .ok (.iconst 2, 1) := by decide +kernel
theorem dX12_parties_104 : decode cX12_parties 104 = .ok (.if_icmp .ge 68, 3) := by decide +kernel
theorem dX12_parties_107 : decode cX12_parties 107 = .ok (.iconst 0, 1) := by decide +kernel
theorem dX12_parties_108 : decode cX12_parties 108 = .ok (.istore_n 2, 1) := by decide +kernel
theorem dX12_parties_109 : decode cX12_parties 109 = .ok (.iload_n 2, 1) := by decide +kernel
theorem dX12_parties_110 : decode cX12_parties 110 = .ok (.aload_n 0, 1) := by decide +kernel
theorem dX12_parties_111 : decode cX12_parties 111 = .ok (.getfield 24, 3) := by decide +kernel
theorem dX12_parties_114 : decode cX12_parties 114 = .ok (.iload_n 1, 1) := by decide +kernel
theorem dX12_parties_115 : decode cX12_parties 115 = .ok (.iaload, 1) := by decide +kernel
theorem dX12_parties_116 : decode cX12_parties 116 = .ok (.if_icmp .ge 50, 3) := by decide +kernel
theorem dX12_parties_119 : decode cX12_parties 119 = .ok (.aload_n 0, 1) := by decide +kernel
theorem dX12_parties_120 : decode cX12_parties 120 = .ok (.getfield 9, 3) := by decide +kernel
theorem dX12_parties_123 : decode cX12_parties 123 = .ok (.iconst 5, 1) := by decide +kernel
theorem dX12_parties_124 : decode cX12_parties 124 = .ok (.iload_n 1, 1) := by decide +kernel
theorem dX12_parties_125 : decode cX12_parties 125 = .ok (.imul, 1) := by decide +kernel
theorem dX12_parties_126 : decode cX12_parties 126 = .ok (.aload_n 0, 1) := by decide +kernel
theorem dX12_parties_127 : decode cX12_parties 127 = .ok (.getfield 9, 3) := by decide +kernel
theorem dX12_parties_130 : decode cX12_parties 130 = .ok (.bipush 10, 2) := by decide +kernel
theorem dX12_parties_132 : decode cX12_parties 132 = .ok (.iload_n 1, 1) := by decide +kernel
theorem dX12_parties_133 : decode cX12_parties 133 = .ok (.iadd, 1) := by decide +kernel
theorem dX12_parties_134 : decode cX12_parties 134 = .ok (.iaload, 1) := by decide +kernel
theorem dX12_parties_135 : decode cX12_parties 135 = .ok (.iadd, 1) := by decide +kernel
theorem dX12_parties_136 : decode cX12_parties 136 = .ok (.aload_n 0, 1) := by decide +kernel
theorem dX12_parties_137 : decode cX12_parties 137 = .ok (.getfield 21, 3) := by decide +kernel
theorem dX12_parties_140 : decode cX12_parties 140 = .ok (.iconst 5, 1) := by decide +kernel
theorem dX12_parties_141 : decode cX12_parties 141 = .ok (.iload_n 1, 1) := by decide +kernel
theorem dX12_parties_142 : decode cX12_parties 142 = .ok (.imul, 1) := by decide +kernel
theorem dX12_parties_143 : decode cX12_parties 143 = .ok (.iload_n 2, 1) := by decide +kernel
theorem dX12_parties_144 : decode cX12_parties 144 = .ok (.iadd, 1) := by decide +kernel
theorem dX12_parties_145 : decode cX12_parties 145 = .ok (.iaload, 1) := by decide +kernel
theorem dX12_parties_146 : decode cX12_parties 146 = .ok (.iastore, 1) := by decide +kernel
theorem dX12_parties_147 : decode cX12_parties 147 = .ok (.aload_n 0, 1) := by decide +kernel
theorem dX12_parties_148 : decode cX12_parties 148 = .ok (.getfield 9, 3) := by decide +kernel
theorem dX12_parties_151 : decode cX12_parties 151 = .ok (.bipush 10, 2) := by decide +kernel
theorem dX12_parties_153 : decode cX12_parties 153 = .ok (.iload_n 1, 1) := by decide +kernel
theorem dX12_parties_154 : decode cX12_parties 154 = .ok (.iadd, 1) := by decide +kernel
theorem dX12_parties_155 : decode cX12_parties 155 = .ok (.dup2, 1) := by decide +kernel
theorem dX12_parties_156 : decode cX12_parties 156 = .ok (.iaload, 1) := by decide +kernel
theorem dX12_parties_157 : decode cX12_parties 157 = .ok (.iconst 1, 1) := by decide +kernel
theorem dX12_parties_158 : decode cX12_parties 158 = .ok (.iadd, 1) := by decide +kernel
theorem dX12_parties_159 : decode cX12_parties 159 = .ok (.iastore, 1) := by decide +kernel
theorem dX12_parties_160 : decode cX12_parties 160 = .ok (.iinc 2 1, 3) := by decide +kernel
theorem dX12_parties_163 : decode cX12_parties 163 = .ok (.goto (-54), 3) := by decide +kernel
theorem dX12_parties_166 : decode cX12_parties 166 = .ok (.iinc 1 1, 3) := by decide +kernel
theorem dX12_parties_169 : decode cX12_parties 169 = .ok (.goto (-67), 3) := by decide +kernel
theorem dX12_parties_172 : decode cX12_parties 172 = .ok (.aload_n 0, 1) := by decide +kernel
theorem dX12_parties_173 : decode cX12_parties 173 = .ok (.iconst 0, 1) := by decide +kernel
theorem dX12_parties_174 : decode cX12_parties 174 = .ok (.putfield 147, 3) := by decide +kernel
theorem dX12_parties_177 : decode cX12_parties 177 = .ok (.aload_n 0, 1) := by decide +kernel
theorem dX12_parties_178 : decode cX12_parties 178 = .ok (.getfield 24, 3) := by decide +kernel
theorem dX12_parties_181 : decode cX12_parties 181 = .ok (.iconst 0, 1) := by decide +kernel
theorem dX12_parties_182 : decode cX12_parties 182 = .ok (.iaload, 1) := by decide +kernel
theorem dX12_parties_183 : decode cX12_parties 183 = .ok (.aload_n 0, 1) := by decide +kernel
theorem dX12_parties_184 : decode cX12_parties 184 = .ok (.getfield 24, 3) := by decide +kernel
theorem dX12_parties_187 : decode cX12_parties 187 = .ok (.iconst 1, 1) := by decide +kernel
theorem dX12_parties_188 : decode cX12_parties 188 = .ok (.iaload, 1) := by decide +kernel
theorem dX12_parties_189 : decode cX12_parties 189 = .ok (.iadd, 1) := by decide +kernel
theorem dX12_parties_190 : decode cX12_parties 190 = .ok (.ireturn, 1) := by decide +kernel
theorem dX12_readBelow_0 : decode cX12_readBelow 0 = .ok (.iconst 1, 1) := by decide +kernel
theorem dX12_readBelow_1 : decode cX12_readBelow 1 = .ok (.istore_n 1, 1) := by decide +kernel
theorem dX12_readBelow_2 : decode cX12_readBelow 2 = .ok (.iload_n 1, 1) := by decide +kernel
theorem dX12_readBelow_3 : decode cX12_readBelow 3 = .ok (.ifCond .eq 32, 3) := by decide +kernel
theorem dX12_readBelow_6 : decode cX12_readBelow 6 = .ok (.aload_n 0, 1) := by decide +kernel
theorem dX12_readBelow_7 : decode cX12_readBelow 7 = .ok (.invokevirtual 115, 3) := by decide +kernel
theorem dX12_readBelow_10 : decode cX12_readBelow 10 = .ok (.ifCond .eq 25, 3) := by decide +kernel
theorem dX12_readBelow_13 : decode cX12_readBelow 13 = .ok (.aload_n 0, 1) := by decide +kernel
theorem dX12_readBelow_14 : decode cX12_readBelow 14 = .ok (.iconst 1, 1) := by decide +kernel
theorem dX12_readBelow_15 : decode cX12_readBelow 15 = .ok (.invokevirtual 138, 3) := by decide +kernel
theorem dX12_readBelow_18 : decode cX12_readBelow 18 = .ok (.aload_n 0, 1) := by decide +kernel
theorem dX12_readBelow_19 : decode cX12_readBelow 19 = .ok (.invokevirtual 119, 3) := by decide +kernel
theorem dX12_readBelow_22 : decode cX12_readBelow 22 = .ok (.iconst (-1), 1) := by decide +kernel
theorem dX12_readBelow_23 : decode cX12_readBelow 23 = .ok (.if_icmp .eq 7, 3) := by decide +kernel
theorem dX12_readBelow_26 : decode cX12_readBelow 26 = .ok (.iconst 1, 1) := by decide +kernel
theorem dX12_readBelow_27 : decode cX12_readBelow 27 = .ok (.goto 4, 3) := by decide +kernel
theorem dX12_readBelow_30 : decode cX12_readBelow 30 = .ok (.iconst 0, 1) := by decide +kernel
theorem dX12_readBelow_31 : decode cX12_readBelow 31 = .ok (.istore_n 1, 1) := by decide +kernel
theorem dX12_readBelow_32 : decode cX12_readBelow 32 = .ok (.goto (-30), 3) := by decide +kernel
theorem dX12_readBelow_35 : decode cX12_readBelow 35 = .ok (.return_, 1) := by decide +kernel
theorem dX12_held_0 : decode cX12_held 0 = .ok (.aload_n 0, 1) := by decide +kernel
theorem dX12_held_1 : decode cX12_held 1 = .ok (.iload_n 1, 1) := by decide +kernel
theorem dX12_held_2 : decode cX12_held 2 = .ok (.invokevirtual 150, 3) := by decide +kernel
theorem dX12_held_5 : decode cX12_held 5 = .ok (.istore_n 2, 1) := by decide +kernel
theorem dX12_held_6 : decode cX12_held 6 = .ok (.aload_n 0, 1) := by decide +kernel
theorem dX12_held_7 : decode cX12_held 7 = .ok (.bipush 60, 2) := by decide +kernel
theorem dX12_held_9 : decode cX12_held 9 = .ok (.invokevirtual 123, 3) := by decide +kernel
theorem dX12_held_12 : decode cX12_held 12 = .ok (.ifCond .eq 18, 3) := by decide +kernel
theorem dX12_held_15 : decode cX12_held 15 = .ok (.iload_n 2, 1) := by decide +kernel
theorem dX12_held_16 : decode cX12_held 16 = .ok (.aload_n 0, 1) := by decide +kernel
theorem dX12_held_17 : decode cX12_held 17 = .ok (.iload_n 1, 1) := by decide +kernel
theorem dX12_held_18 : decode cX12_held 18 = .ok (.invokevirtual 150, 3) := by decide +kernel
theorem dX12_held_21 : decode cX12_held 21 = .ok (.if_icmp .ge 7, 3) := by decide +kernel
theorem dX12_held_24 : decode cX12_held 24 = .ok (.iconst 1, 1) := by decide +kernel
theorem dX12_held_25 : decode cX12_held 25 = .ok (.goto 4, 3) := by decide +kernel
theorem dX12_held_28 : decode cX12_held 28 = .ok (.iconst 0, 1) := by decide +kernel
theorem dX12_held_29 : decode cX12_held 29 = .ok (.ireturn, 1) := by decide +kernel
theorem dX12_held_30 : decode cX12_held 30 = .ok (.aload_n 0, 1) := by decide +kernel
theorem dX12_held_31 : decode cX12_held 31 = .ok (.bipush 62, 2) := by decide +kernel
theorem dX12_held_33 : decode cX12_held 33 = .ok (.invokevirtual 123, 3) := by decide +kernel
theorem dX12_held_36 : decode cX12_held 36 = .ok (.ifCond .eq 18, 3) := by decide +kernel
theorem dX12_held_39 : decode cX12_held 39 = .ok (.iload_n 2, 1) := by decide +kernel
theorem dX12_held_40 : decode cX12_held 40 = .ok (.aload_n 0, 1) := by decide +kernel
theorem dX12_held_41 : decode cX12_held 41 = .ok (.iload_n 1, 1) := by decide +kernel
theorem dX12_held_42 : decode cX12_held 42 = .ok (.invokevirtual 150, 3) := by decide +kernel
theorem dX12_held_45 : decode cX12_held 45 = .ok (.if_icmp .le 7, 3) := by decide +kernel
theorem dX12_held_48 : decode cX12_held 48 = .ok (.iconst 1, 1) := by decide +kernel
theorem dX12_held_49 : decode cX12_held 49 = .ok (.goto 4, 3) := by decide +kernel
theorem dX12_held_52 : decode cX12_held 52 = .ok (.iconst 0, 1) := by decide +kernel
theorem dX12_held_53 : decode cX12_held 53 = .ok (.ireturn, 1) := by decide +kernel
theorem dX12_held_54 : decode cX12_held 54 = .ok (.aload_n 0, 1) := by decide +kernel
theorem dX12_held_55 : decode cX12_held 55 = .ok (.bipush 61, 2) := by decide +kernel
theorem dX12_held_57 : decode cX12_held 57 = .ok (.invokevirtual 123, 3) := by decide +kernel
theorem dX12_held_60 : decode cX12_held 60 = .ok (.ifCond .eq 18, 3) := by decide +kernel
theorem dX12_held_63 : decode cX12_held 63 = .ok (.iload_n 2, 1) := by decide +kernel
theorem dX12_held_64 : decode cX12_held 64 = .ok (.aload_n 0, 1) := by decide +kernel
theorem dX12_held_65 : decode cX12_held 65 = .ok (.iload_n 1, 1) := by decide +kernel
theorem dX12_held_66 : decode cX12_held 66 = .ok (.invokevirtual 150, 3) := by decide +kernel
theorem dX12_held_69 : decode cX12_held 69 = .ok (.if_icmp .ne 7, 3) := by decide +kernel
theorem dX12_held_72 : decode cX12_held 72 = .ok (.iconst 1, 1) := by decide +kernel
theorem dX12_held_73 : decode cX12_held 73 = .ok (.goto 4, 3) := by decide +kernel
theorem dX12_held_76 : decode cX12_held 76 = .ok (.iconst 0, 1) := by decide +kernel
theorem dX12_held_77 : decode cX12_held 77 = .ok (.ireturn, 1) := by decide +kernel
theorem dX12_held_78 : decode cX12_held 78 = .ok (.iload_n 2, 1) := by decide +kernel
theorem dX12_held_79 : decode cX12_held 79 = .ok (.ireturn, 1) := by decide +kernel
theorem dX12_sum_0 : decode cX12_sum 0 = .ok (.aload_n 0, 1) := by decide +kernel
theorem dX12_sum_1 : decode cX12_sum 1 = .ok (.iload_n 1, 1) := by decide +kernel
theorem dX12_sum_2 : decode cX12_sum 2 = .ok (.invokevirtual 154, 3) := by decide +kernel
theorem dX12_sum_5 : decode cX12_sum 5 = .ok (.istore_n 2, 1) := by decide +kernel
theorem dX12_sum_6 : decode cX12_sum 6 = .ok (.aload_n 0, 1) := by decide +kernel
theorem dX12_sum_7 : decode cX12_sum 7 = .ok (.invokevirtual 115, 3) := by decide +kernel
theorem dX12_sum_10 : decode cX12_sum 10 = .ok (.ifCond .eq 72, 3) := by decide +kernel
theorem dX12_sum_13 : decode cX12_sum 13 = .ok (.aload_n 0, 1) := by decide +kernel
theorem dX12_sum_14 : decode cX12_sum 14 = .ok (.invokevirtual 119, 3) := by decide +kernel
theorem dX12_sum_17 : decode cX12_sum 17 = .ok (.bipush 43, 2) := by decide +kernel
theorem dX12_sum_19 : decode cX12_sum 19 = .ok (.if_icmp .eq 12, 3) := by decide +kernel
theorem dX12_sum_22 : decode cX12_sum 22 = .ok (.aload_n 0, 1) := by decide +kernel
theorem dX12_sum_23 : decode cX12_sum 23 = .ok (.invokevirtual 119, 3) := by decide +kernel
theorem dX12_sum_26 : decode cX12_sum 26 = .ok (.bipush 45, 2) := by decide +kernel
theorem dX12_sum_28 : decode cX12_sum 28 = .ok (.if_icmp .ne 54, 3) := by decide +kernel
theorem dX12_sum_31 : decode cX12_sum 31 = .ok (.aload_n 0, 1) := by decide +kernel
theorem dX12_sum_32 : decode cX12_sum 32 = .ok (.invokevirtual 119, 3) := by decide +kernel
theorem dX12_sum_35 : decode cX12_sum 35 = .ok (.bipush 43, 2) := by decide +kernel
theorem dX12_sum_37 : decode cX12_sum 37 = .ok (.if_icmp .ne 7, 3) := by decide +kernel
theorem dX12_sum_40 : decode cX12_sum 40 = .ok (.iconst 1, 1) := by decide +kernel
theorem dX12_sum_41 : decode cX12_sum 41 = .ok (.goto 4, 3) := by decide +kernel
theorem dX12_sum_44 : decode cX12_sum 44 = .ok (.iconst 0, 1) := by decide +kernel
theorem dX12_sum_45 : decode cX12_sum 45 = .ok (.istore_n 3, 1) := by decide +kernel
theorem dX12_sum_46 : decode cX12_sum 46 = .ok (.aload_n 0, 1) := by decide +kernel
theorem dX12_sum_47 : decode cX12_sum 47 = .ok (.dup, 1) := by decide +kernel
theorem dX12_sum_48 : decode cX12_sum 48 = .ok (.getfield 105, 3) := by decide +kernel
theorem dX12_sum_51 : decode cX12_sum 51 = .ok (.iconst 1, 1) := by decide +kernel
theorem dX12_sum_52 : decode cX12_sum 52 = .ok (.iadd, 1) := by decide +kernel
theorem dX12_sum_53 : decode cX12_sum 53 = .ok (.putfield 105, 3) := by decide +kernel
theorem dX12_sum_56 : decode cX12_sum 56 = .ok (.aload_n 0, 1) := by decide +kernel
theorem dX12_sum_57 : decode cX12_sum 57 = .ok (.iload_n 1, 1) := by decide +kernel
theorem dX12_sum_58 : decode cX12_sum 58 = .ok (.invokevirtual 154, 3) := by decide +kernel
theorem dX12_sum_61 : decode cX12_sum 61 = .ok (.istore 4, 2) := by decide +kernel
theorem dX12_sum_63 : decode cX12_sum 63 = .ok (.iload_n 3, 1) := by decide +kernel
theorem dX12_sum_64 : decode cX12_sum 64 = .ok (.ifCond .eq 10, 3) := by decide +kernel
theorem dX12_sum_67 : decode cX12_sum 67 = .ok (.iload_n 2, 1) := by decide +kernel
theorem dX12_sum_68 : decode cX12_sum 68 = .ok (.iload 4, 2) := by decide +kernel
theorem dX12_sum_70 : decode cX12_sum 70 = .ok (.iadd, 1) := by decide +kernel
theorem dX12_sum_71 : decode cX12_sum 71 = .ok (.goto 7, 3) := by decide +kernel
theorem dX12_sum_74 : decode cX12_sum 74 = .ok (.iload_n 2, 1) := by decide +kernel
theorem dX12_sum_75 : decode cX12_sum 75 = .ok (.iload 4, 2) := by decide +kernel
theorem dX12_sum_77 : decode cX12_sum 77 = .ok (.isub, 1) := by decide +kernel
theorem dX12_sum_78 : decode cX12_sum 78 = .ok (.istore_n 2, 1) := by decide +kernel
theorem dX12_sum_79 : decode cX12_sum 79 = .ok (.goto (-73), 3) := by decide +kernel
theorem dX12_sum_82 : decode cX12_sum 82 = .ok (.iload_n 2, 1) := by decide +kernel
theorem dX12_sum_83 : decode cX12_sum 83 = .ok (.ireturn, 1) := by decide +kernel
theorem dX12_product_0 : decode cX12_product 0 = .ok (.aload_n 0, 1) := by decide +kernel
theorem dX12_product_1 : decode cX12_product 1 = .ok (.iload_n 1, 1) := by decide +kernel
theorem dX12_product_2 : decode cX12_product 2 = .ok (.invokevirtual 157, 3) := by decide +kernel
theorem dX12_product_5 : decode cX12_product 5 = .ok (.istore_n 2, 1) := by decide +kernel
theorem dX12_product_6 : decode cX12_product 6 = .ok (.aload_n 0, 1) := by decide +kernel
theorem dX12_product_7 : decode cX12_product 7 = .ok (.invokevirtual 115, 3) := by decide +kernel
theorem dX12_product_10 : decode cX12_product 10 = .ok (.ifCond .eq 81, 3) := by decide +kernel
theorem dX12_product_13 : decode cX12_product 13 = .ok (.aload_n 0, 1) := by decide +kernel
theorem dX12_product_14 : decode cX12_product 14 = .ok (.invokevirtual 119, 3) := by decide +kernel
theorem dX12_product_17 : decode cX12_product 17 = .ok (.bipush 42, 2) := by decide +kernel
theorem dX12_product_19 : decode cX12_product 19 = .ok (.if_icmp .eq 12, 3) := by decide +kernel
theorem dX12_product_22 : decode cX12_product 22 = .ok (.aload_n 0, 1) := by decide +kernel
theorem dX12_product_23 : decode cX12_product 23 = .ok (.invokevirtual 119, 3) := by decide +kernel
theorem dX12_product_26 : decode cX12_product 26 = .ok (.bipush 47, 2) := by decide +kernel
theorem dX12_product_28 : decode cX12_product 28 = .ok (.if_icmp .ne 63, 3) := by decide +kernel
theorem dX12_product_31 : decode cX12_product 31 = .ok (.aload_n 0, 1) := by decide +kernel
theorem dX12_product_32 : decode cX12_product 32 = .ok (.invokevirtual 119, 3) := by decide +kernel
theorem dX12_product_35 : decode cX12_product 35 = .ok (.bipush 42, 2) := by decide +kernel
theorem dX12_product_37 : decode cX12_product 37 = .ok (.if_icmp .ne 7, 3) := by decide +kernel
theorem dX12_product_40 : decode cX12_product 40 = .ok (.iconst 1, 1) := by decide +kernel
theorem dX12_product_41 : decode cX12_product 41 = .ok (.goto 4, 3) := by decide +kernel
theorem dX12_product_44 : decode cX12_product 44 = .ok (.iconst 0, 1) := by decide +kernel
theorem dX12_product_45 : decode cX12_product 45 = .ok (.istore_n 3, 1) := by decide +kernel
theorem dX12_product_46 : decode cX12_product 46 = .ok (.aload_n 0, 1) := by decide +kernel
theorem dX12_product_47 : decode cX12_product 47 = .ok (.dup, 1) := by decide +kernel
theorem dX12_product_48 : decode cX12_product 48 = .ok (.getfield 105, 3) := by decide +kernel
theorem dX12_product_51 : decode cX12_product 51 = .ok (.iconst 1, 1) := by decide +kernel
theorem dX12_product_52 : decode cX12_product 52 = .ok (.iadd, 1) := by decide +kernel
theorem dX12_product_53 : decode cX12_product 53 = .ok (.putfield 105, 3) := by decide +kernel
theorem dX12_product_56 : decode cX12_product 56 = .ok (.aload_n 0, 1) := by decide +kernel
theorem dX12_product_57 : decode cX12_product 57 = .ok (.iload_n 1, 1) := by decide +kernel
theorem dX12_product_58 : decode cX12_product 58 = .ok (.invokevirtual 157, 3) := by decide +kernel
theorem dX12_product_61 : decode cX12_product 61 = .ok (.istore 4, 2) := by decide +kernel
theorem dX12_product_63 : decode cX12_product 63 = .ok (.iload_n 3, 1) := by decide +kernel
theorem dX12_product_64 : decode cX12_product 64 = .ok (.ifCond .eq 10, 3) := by decide +kernel
theorem dX12_product_67 : decode cX12_product 67 = .ok (.iload_n 2, 1) := by decide +kernel
theorem dX12_product_68 : decode cX12_product 68 = .ok (.iload 4, 2) := by decide +kernel
theorem dX12_product_70 : decode cX12_product 70 = .ok (.imul, 1) := by decide +kernel
theorem dX12_product_71 : decode cX12_product 71 = .ok (.goto 16, 3) := by decide +kernel
theorem dX12_product_74 : decode cX12_product 74 = .ok (.iload 4, 2) := by decide +kernel
theorem dX12_product_76 : decode cX12_product 76 = .ok (.ifCond .ne 7, 3) := by decide +kernel
theorem dX12_product_79 : decode cX12_product 79 = .ok (.iconst 0, 1) := by decide +kernel
theorem dX12_product_80 : decode cX12_product 80 = .ok (.goto 7, 3) := by decide +kernel
theorem dX12_product_83 : decode cX12_product 83 = .ok (.iload_n 2, 1) := by decide +kernel
theorem dX12_product_84 : decode cX12_product 84 = .ok (.iload 4, 2) := by decide +kernel
theorem dX12_product_86 : decode cX12_product 86 = .ok (.idiv, 1) := by decide +kernel
theorem dX12_product_87 : decode cX12_product 87 = .ok (.istore_n 2, 1) := by decide +kernel
theorem dX12_product_88 : decode cX12_product 88 = .ok (.goto (-82), 3) := by decide +kernel
theorem dX12_product_91 : decode cX12_product 91 = .ok (.iload_n 2, 1) := by decide +kernel
theorem dX12_product_92 : decode cX12_product 92 = .ok (.ireturn, 1) := by decide +kernel
theorem dX12_letterOf_0 : decode cX12_letterOf 0 = .ok (.iload_n 0, 1) := by decide +kernel
theorem dX12_letterOf_1 : decode cX12_letterOf 1 = .ok (.bipush 110, 2) := by decide +kernel
theorem dX12_letterOf_3 : decode cX12_letterOf 3 = .ok (.if_icmp .ne 7, 3) := by decide +kernel
theorem dX12_letterOf_6 : decode cX12_letterOf 6 = .ok (.iconst 0, 1) := by decide +kernel
theorem dX12_letterOf_7 : decode cX12_letterOf 7 = .ok (.goto 65, 3) := by decide +kernel
theorem dX12_letterOf_10 : decode cX12_letterOf 10 = .ok (.iload_n 0, 1) := by decide +kernel
theorem dX12_letterOf_11 : decode cX12_letterOf 11 = .ok (.bipush 99, 2) := by decide +kernel
theorem dX12_letterOf_13 : decode cX12_letterOf 13 = .ok (.if_icmp .ne 7, 3) := by decide +kernel
theorem dX12_letterOf_16 : decode cX12_letterOf 16 = .ok (.iconst 1, 1) := by decide +kernel
theorem dX12_letterOf_17 : decode cX12_letterOf 17 = .ok (.goto 55, 3) := by decide +kernel
theorem dX12_letterOf_20 : decode cX12_letterOf 20 = .ok (.iload_n 0, 1) := by decide +kernel
theorem dX12_letterOf_21 : decode cX12_letterOf 21 = .ok (.bipush 117, 2) := by decide +kernel
theorem dX12_letterOf_23 : decode cX12_letterOf 23 = .ok (.if_icmp .ne 7, 3) := by decide +kernel
theorem dX12_letterOf_26 : decode cX12_letterOf 26 = .ok (.iconst 2, 1) := by decide +kernel
theorem dX12_letterOf_27 : decode cX12_letterOf 27 = .ok (.goto 45, 3) := by decide +kernel
theorem dX12_letterOf_30 : decode cX12_letterOf 30 = .ok (.iload_n 0, 1) := by decide +kernel
theorem dX12_letterOf_31 : decode cX12_letterOf 31 = .ok (.bipush 100, 2) := by decide +kernel
theorem dX12_letterOf_33 : decode cX12_letterOf 33 = .ok (.if_icmp .ne 7, 3) := by decide +kernel
theorem dX12_letterOf_36 : decode cX12_letterOf 36 = .ok (.iconst 3, 1) := by decide +kernel
theorem dX12_letterOf_37 : decode cX12_letterOf 37 = .ok (.goto 35, 3) := by decide +kernel
theorem dX12_letterOf_40 : decode cX12_letterOf 40 = .ok (.iload_n 0, 1) := by decide +kernel
theorem dX12_letterOf_41 : decode cX12_letterOf 41 = .ok (.bipush 119, 2) := by decide +kernel
theorem dX12_letterOf_43 : decode cX12_letterOf 43 = .ok (.if_icmp .ne 7, 3) := by decide +kernel
theorem dX12_letterOf_46 : decode cX12_letterOf 46 = .ok (.iconst 4, 1) := by decide +kernel
theorem dX12_letterOf_47 : decode cX12_letterOf 47 = .ok (.goto 25, 3) := by decide +kernel
theorem dX12_letterOf_50 : decode cX12_letterOf 50 = .ok (.iload_n 0, 1) := by decide +kernel
theorem dX12_letterOf_51 : decode cX12_letterOf 51 = .ok (.bipush 103, 2) := by decide +kernel
theorem dX12_letterOf_53 : decode cX12_letterOf 53 = .ok (.if_icmp .ne 7, 3) := by decide +kernel
theorem dX12_letterOf_56 : decode cX12_letterOf 56 = .ok (.iconst 5, 1) := by decide +kernel
theorem dX12_letterOf_57 : decode cX12_letterOf 57 = .ok (.goto 15, 3) := by decide +kernel
theorem dX12_letterOf_60 : decode cX12_letterOf 60 = .ok (.iload_n 0, 1) := by decide +kernel
theorem dX12_letterOf_61 : decode cX12_letterOf 61 = .ok (.bipush 116, 2) := by decide +kernel
theorem dX12_letterOf_63 : decode cX12_letterOf 63 = .ok (.if_icmp .ne 8, 3) := by decide +kernel
theorem dX12_letterOf_66 : decode cX12_letterOf 66 = .ok (.bipush 6, 2) := by decide +kernel
theorem dX12_letterOf_68 : decode cX12_letterOf 68 = .ok (.goto 4, 3) := by decide +kernel
theorem dX12_letterOf_71 : decode cX12_letterOf 71 = .ok (.iconst (-1), 1) := by decide +kernel
theorem dX12_letterOf_72 : decode cX12_letterOf 72 = .ok (.ireturn, 1) := by decide +kernel
theorem dX12_thing_0 : decode cX12_thing 0 = .ok (.aload_n 0, 1) := by decide +kernel
theorem dX12_thing_1 : decode cX12_thing 1 = .ok (.bipush 45, 2) := by decide +kernel
theorem dX12_thing_3 : decode cX12_thing 3 = .ok (.invokevirtual 123, 3) := by decide +kernel
theorem dX12_thing_6 : decode cX12_thing 6 = .ok (.ifCond .eq 10, 3) := by decide +kernel
theorem dX12_thing_9 : decode cX12_thing 9 = .ok (.aload_n 0, 1) := by decide +kernel
theorem dX12_thing_10 : decode cX12_thing 10 = .ok (.iload_n 1, 1) := by decide +kernel
theorem dX12_thing_11 : decode cX12_thing 11 = .ok (.invokevirtual 157, 3) := by decide +kernel
theorem dX12_thing_14 : decode cX12_thing 14 = .ok (.ineg, 1) := by decide +kernel
theorem dX12_thing_15 : decode cX12_thing 15 = .ok (.ireturn, 1) := by decide +kernel
theorem dX12_thing_16 : decode cX12_thing 16 = .ok (.aload_n 0, 1) := by decide +kernel
theorem dX12_thing_17 : decode cX12_thing 17 = .ok (.invokevirtual 115, 3) := by decide +kernel
theorem dX12_thing_20 : decode cX12_thing 20 = .ok (.ifCond .ne 5, 3) := by decide +kernel
theorem dX12_thing_23 : decode cX12_thing 23 = .ok (.iconst 0, 1) := by decide +kernel
theorem dX12_thing_24 : decode cX12_thing 24 = .ok (.ireturn, 1) := by decide +kernel
theorem dX12_thing_25 : decode cX12_thing 25 = .ok (.aload_n 0, 1) := by decide +kernel
theorem dX12_thing_26 : decode cX12_thing 26 = .ok (.invokevirtual 119, 3) := by decide +kernel
theorem dX12_thing_29 : decode cX12_thing 29 = .ok (.istore_n 2, 1) := by decide +kernel
theorem dX12_thing_30 : decode cX12_thing 30 = .ok (.iload_n 2, 1) := by decide +kernel
theorem dX12_thing_31 : decode cX12_thing 31 = .ok (.bipush 40, 2) := by decide +kernel
theorem dX12_thing_33 : decode cX12_thing 33 = .ok (.if_icmp .ne 34, 3) := by decide +kernel
theorem dX12_thing_36 : decode cX12_thing 36 = .ok (.iload_n 1, 1) := by decide +kernel
theorem dX12_thing_37 : decode cX12_thing 37 = .ok (.iconst 4, 1) := by decide +kernel
theorem dX12_thing_38 : decode cX12_thing 38 = .ok (.if_icmp .ge 29, 3) := by decide +kernel
theorem dX12_thing_41 : decode cX12_thing 41 = .ok (.aload_n 0, 1) := by decide +kernel
theorem dX12_thing_42 : decode cX12_thing 42 = .ok (.dup, 1) := by decide +kernel
theorem dX12_thing_43 : decode cX12_thing 43 = .ok (.getfield 105, 3) := by decide +kernel
theorem dX12_thing_46 : decode cX12_thing 46 = .ok (.iconst 1, 1) := by decide +kernel
theorem dX12_thing_47 : decode cX12_thing 47 = .ok (.iadd, 1) := by decide +kernel
theorem dX12_thing_48 : decode cX12_thing 48 = .ok (.putfield 105, 3) := by decide +kernel
theorem dX12_thing_51 : decode cX12_thing 51 = .ok (.aload_n 0, 1) := by decide +kernel
theorem dX12_thing_52 : decode cX12_thing 52 = .ok (.iload_n 1, 1) := by decide +kernel
theorem dX12_thing_53 : decode cX12_thing 53 = .ok (.iconst 1, 1) := by decide +kernel
theorem dX12_thing_54 : decode cX12_thing 54 = .ok (.iadd, 1) := by decide +kernel
theorem dX12_thing_55 : decode cX12_thing 55 = .ok (.invokevirtual 160, 3) := by decide +kernel
theorem dX12_thing_58 : decode cX12_thing 58 = .ok (.istore_n 3, 1) := by decide +kernel
theorem dX12_thing_59 : decode cX12_thing 59 = .ok (.aload_n 0, 1) := by decide +kernel
theorem dX12_thing_60 : decode cX12_thing 60 = .ok (.bipush 41, 2) := by decide +kernel
theorem dX12_thing_62 : decode cX12_thing 62 = .ok (.invokevirtual 163, 3) := by decide +kernel
theorem dX12_thing_65 : decode cX12_thing 65 = .ok (.iload_n 3, 1) := by decide +kernel
theorem dX12_thing_66 : decode cX12_thing 66 = .ok (.ireturn, 1) := by decide +kernel
theorem dX12_thing_67 : decode cX12_thing 67 = .ok (.iload_n 2, 1) := by decide +kernel
theorem dX12_thing_68 : decode cX12_thing 68 = .ok (.bipush 48, 2) := by decide +kernel
theorem dX12_thing_70 : decode cX12_thing 70 = .ok (.bipush 57, 2) := by decide +kernel
theorem dX12_thing_72 : decode cX12_thing 72 = .ok (.invokestatic 89, 3) := by decide +kernel
theorem dX12_thing_75 : decode cX12_thing 75 = .ok (.ifCond .eq 9, 3) := by decide +kernel
theorem dX12_thing_78 : decode cX12_thing 78 = .ok (.aload_n 0, 1) := by decide +kernel
theorem dX12_thing_79 : decode cX12_thing 79 = .ok (.iconst 3, 1) := by decide +kernel
theorem dX12_thing_80 : decode cX12_thing 80 = .ok (.invokevirtual 167, 3) := by decide +kernel
theorem dX12_thing_83 : decode cX12_thing 83 = .ok (.ireturn, 1) := by decide +kernel
theorem dX12_thing_84 : decode cX12_thing 84 = .ok (.iload_n 2, 1) := by decide +kernel
theorem dX12_thing_85 : decode cX12_thing 85 = .ok (.invokestatic 170, 3) := by decide +kernel
theorem dX12_thing_88 : decode cX12_thing 88 = .ok (.iconst (-1), 1) := by decide +kernel
theorem dX12_thing_89 : decode cX12_thing 89 = .ok (.if_icmp .ne 13, 3) := by decide +kernel
theorem dX12_thing_92 : decode cX12_thing 92 = .ok (.aload_n 0, 1) := by decide +kernel
theorem dX12_thing_93 : decode cX12_thing 93 = .ok (.aload_n 0, 1) := by decide +kernel
theorem dX12_thing_94 : decode cX12_thing 94 = .ok (.getfield 105, 3) := by decide +kernel
theorem dX12_thing_97 : decode cX12_thing 97 = .ok (.invokevirtual 127, 3) := by decide +kernel
theorem dX12_thing_100 : decode cX12_thing 100 = .ok (.iconst 0, 1) := by decide +kernel
theorem dX12_thing_101 : decode cX12_thing 101 = .ok (.ireturn, 1) := by decide +kernel
theorem dX12_thing_102 : decode cX12_thing 102 = .ok (.aload_n 0, 1) := by decide +kernel
theorem dX12_thing_103 : decode cX12_thing 103 = .ok (.dup, 1) := by decide +kernel
theorem dX12_thing_104 : decode cX12_thing 104 = .ok (.getfield 105, 3) := by decide +kernel
theorem dX12_thing_107 : decode cX12_thing 107 = .ok (.iconst 1, 1) := by decide +kernel
theorem dX12_thing_108 : decode cX12_thing 108 = .ok (.iadd, 1) := by decide +kernel
theorem dX12_thing_109 : decode cX12_thing 109 = .ok (.putfield 105, 3) := by decide +kernel
theorem dX12_thing_112 : decode cX12_thing 112 = .ok (.aload_n 0, 1) := by decide +kernel
theorem dX12_thing_113 : decode cX12_thing 113 = .ok (.getfield 173, 3) := by decide +kernel
theorem dX12_thing_116 : decode cX12_thing 116 = .ok (.ifCond .eq 15, 3) := by decide +kernel
theorem dX12_thing_119 : decode cX12_thing 119 = .ok (.aload_n 0, 1) := by decide +kernel
theorem dX12_thing_120 : decode cX12_thing 120 = .ok (.getfield 33, 3) := by decide +kernel
theorem dX12_thing_123 : decode cX12_thing 123 = .ok (.iload_n 2, 1) := by decide +kernel
theorem dX12_thing_124 : decode cX12_thing 124 = .ok (.invokestatic 170, 3) := by decide +kernel
theorem dX12_thing_127 : decode cX12_thing 127 = .ok (.iaload, 1) := by decide +kernel
theorem dX12_thing_128 : decode cX12_thing 128 = .ok (.goto 4, 3) := by decide +kernel
theorem dX12_thing_131 : decode cX12_thing 131 = .ok (.iconst 0, 1) := by decide +kernel
theorem dX12_thing_132 : decode cX12_thing 132 = .ok (.ireturn, 1) := by decide +kernel
theorem dX12_readRule_0 : decode cX12_readRule 0 = .ok (.aload_n 0, 1) := by decide +kernel
theorem dX12_readRule_1 : decode cX12_readRule 1 = .ok (.bipush 40, 2) := by decide +kernel
theorem dX12_readRule_3 : decode cX12_readRule 3 = .ok (.invokevirtual 135, 3) := by decide +kernel
theorem dX12_readRule_6 : decode cX12_readRule 6 = .ok (.aload_n 0, 1) := by decide +kernel
theorem dX12_readRule_7 : decode cX12_readRule 7 = .ok (.iconst 0, 1) := by decide +kernel
theorem dX12_readRule_8 : decode cX12_readRule 8 = .ok (.putfield 173, 3) := by decide +kernel
theorem dX12_readRule_11 : decode cX12_readRule 11 = .ok (.aload_n 0, 1) := by decide +kernel
theorem dX12_readRule_12 : decode cX12_readRule 12 = .ok (.getfield 99, 3) := by decide +kernel
theorem dX12_readRule_15 : decode cX12_readRule 15 = .ok (.ifCond .le 9, 3) := by decide +kernel
theorem dX12_readRule_18 : decode cX12_readRule 18 = .ok (.aload_n 0, 1) := by decide +kernel
theorem dX12_readRule_19 : decode cX12_readRule 19 = .ok (.iconst 0, 1) := by decide +kernel
theorem dX12_readRule_20 : decode cX12_readRule 20 = .ok (.invokevirtual 160, 3) := by decide +kernel
theorem dX12_readRule_23 : decode cX12_readRule 23 = .ok (.pop, 1) := by decide +kernel
theorem dX12_readRule_24 : decode cX12_readRule 24 = .ok (.aload_n 0, 1) := by decide +kernel
theorem dX12_readRule_25 : decode cX12_readRule 25 = .ok (.invokevirtual 144, 3) := by decide +kernel
theorem dX12_readRule_28 : decode cX12_readRule 28 = .ok (.ireturn, 1) := by decide +kernel
theorem dX12_rule_0 : decode cX12_rule 0 = .ok (.aload_n 0, 1) := by decide +kernel
theorem dX12_rule_1 : decode cX12_rule 1 = .ok (.iconst 0, 1) := by decide +kernel
theorem dX12_rule_2 : decode cX12_rule 2 = .ok (.putfield 82, 3) := by decide +kernel
theorem dX12_rule_5 : decode cX12_rule 5 = .ok (.aload_n 0, 1) := by decide +kernel
theorem dX12_rule_6 : decode cX12_rule 6 = .ok (.getfield 93, 3) := by decide +kernel
theorem dX12_rule_9 : decode cX12_rule 9 = .ok (.istore_n 1, 1) := by decide +kernel
theorem dX12_rule_10 : decode cX12_rule 10 = .ok (.aload_n 0, 1) := by decide +kernel
theorem dX12_rule_11 : decode cX12_rule 11 = .ok (.invokevirtual 177, 3) := by decide +kernel
theorem dX12_rule_14 : decode cX12_rule 14 = .ok (.ifCond .ne 10, 3) := by decide +kernel
theorem dX12_rule_17 : decode cX12_rule 17 = .ok (.iconst (-1), 1) := by decide +kernel
theorem dX12_rule_18 : decode cX12_rule 18 = .ok (.aload_n 0, 1) := by decide +kernel
theorem dX12_rule_19 : decode cX12_rule 19 = .ok (.getfield 108, 3) := by decide +kernel
theorem dX12_rule_22 : decode cX12_rule 22 = .ok (.isub, 1) := by decide +kernel
theorem dX12_rule_23 : decode cX12_rule 23 = .ok (.ireturn, 1) := by decide +kernel
theorem dX12_rule_24 : decode cX12_rule 24 = .ok (.iconst 0, 1) := by decide +kernel
theorem dX12_rule_25 : decode cX12_rule 25 = .ok (.istore_n 2, 1) := by decide +kernel
theorem dX12_rule_26 : decode cX12_rule 26 = .ok (.iload_n 2, 1) := by decide +kernel
theorem dX12_rule_27 : decode cX12_rule 27 = .ok (.iload_n 1, 1) := by decide +kernel
theorem dX12_rule_28 : decode cX12_rule 28 = .ok (.if_icmp .ge 21, 3) := by decide +kernel
theorem dX12_rule_31 : decode cX12_rule 31 = .ok (.aload_n 0, 1) := by decide +kernel
theorem dX12_rule_32 : decode cX12_rule 32 = .ok (.getfield 27, 3) := by decide +kernel
theorem dX12_rule_35 : decode cX12_rule 35 = .ok (.iload_n 2, 1) := by decide +kernel
theorem dX12_rule_36 : decode cX12_rule 36 = .ok (.aload_n 0, 1) := by decide +kernel
theorem dX12_rule_37 : decode cX12_rule 37 = .ok (.getfield 13, 3) := by decide +kernel
theorem dX12_rule_40 : decode cX12_rule 40 = .ok (.iload_n 2, 1) := by decide +kernel
theorem dX12_rule_41 : decode cX12_rule 41 = .ok (.baload, 1) := by decide +kernel
theorem dX12_rule_42 : decode cX12_rule 42 = .ok (.bastore, 1) := by decide +kernel
theorem dX12_rule_43 : decode cX12_rule 43 = .ok (.iinc 2 1, 3) := by decide +kernel
theorem dX12_rule_46 : decode cX12_rule 46 = .ok (.goto (-20), 3) := by decide +kernel
theorem dX12_rule_49 : decode cX12_rule 49 = .ok (.aload_n 0, 1) := by decide +kernel
theorem dX12_rule_50 : decode cX12_rule 50 = .ok (.iload_n 1, 1) := by decide +kernel
theorem dX12_rule_51 : decode cX12_rule 51 = .ok (.putfield 180, 3) := by decide +kernel
theorem dX12_rule_54 : decode cX12_rule 54 = .ok (.iconst 0, 1) := by decide +kernel
theorem dX12_rule_55 : decode cX12_rule 55 = .ok (.ireturn, 1) := by decide +kernel
theorem dX12_weightOf_0 : decode cX12_weightOf 0 = .ok (.iconst 0, 1) := by decide +kernel
theorem dX12_weightOf_1 : decode cX12_weightOf 1 = .ok (.istore_n 3, 1) := by decide +kernel
theorem dX12_weightOf_2 : decode cX12_weightOf 2 = .ok (.iconst 0, 1) := by decide +kernel
theorem dX12_weightOf_3 : decode cX12_weightOf 3 = .ok (.istore 4, 2) := by decide +kernel
theorem dX12_weightOf_5 : decode cX12_weightOf 5 = .ok (.iload 4, 2) := by decide +kernel
theorem dX12_weightOf_7 : decode cX12_weightOf 7 = .ok (.aload_n 0, 1) := by decide +kernel
theorem dX12_weightOf_8 : decode cX12_weightOf 8 = .ok (.bipush 10, 2) := by decide +kernel
theorem dX12_weightOf_10 : decode cX12_weightOf 10 = .ok (.iload_n 1, 1) := by decide +kernel
theorem dX12_weightOf_11 : decode cX12_weightOf 11 = .ok (.iadd, 1) := by decide +kernel
theorem dX12_weightOf_12 : decode cX12_weightOf 12 = .ok (.iaload, 1) := by decide +kernel
theorem dX12_weightOf_13 : decode cX12_weightOf 13 = .ok (.if_icmp .ge 33, 3) := by decide +kernel
theorem dX12_weightOf_16 : decode cX12_weightOf 16 = .ok (.iload_n 3, 1) := by decide +kernel
theorem dX12_weightOf_17 : decode cX12_weightOf 17 = .ok (.iload_n 2, 1) := by decide +kernel
theorem dX12_weightOf_18 : decode cX12_weightOf 18 = .ok (.iload 4, 2) := by decide +kernel
theorem dX12_weightOf_20 : decode cX12_weightOf 20 = .ok (.invokestatic 183, 3) := by decide +kernel
theorem dX12_weightOf_23 : decode cX12_weightOf 23 = .ok (.ifCond .eq 14, 3) := by decide +kernel
theorem dX12_weightOf_26 : decode cX12_weightOf 26 = .ok (.aload_n 0, 1) := by decide +kernel
theorem dX12_weightOf_27 : decode cX12_weightOf 27 = .ok (.iconst 5, 1) := by decide +kernel
theorem dX12_weightOf_28 : decode cX12_weightOf 28 = .ok (.iload_n 1, 1) := by decide +kernel
theorem dX12_weightOf_29 : decode cX12_weightOf 29 = .ok (.imul, 1) := by decide +kernel
theorem dX12_weightOf_30 : decode cX12_weightOf 30 = .ok (.iload 4, 2) := by decide +kernel
theorem dX12_weightOf_32 : decode cX12_weightOf 32 = .ok (.iadd, 1) := by decide +kernel
theorem dX12_weightOf_33 : decode cX12_weightOf 33 = .ok (.iaload, 1) := by decide +kernel
theorem dX12_weightOf_34 : decode cX12_weightOf 34 = .ok (.goto 4, 3) := by decide +kernel
theorem dX12_weightOf_37 : decode cX12_weightOf 37 = .ok (.iconst 0, 1) := by decide +kernel
theorem dX12_weightOf_38 : decode cX12_weightOf 38 = .ok (.iadd, 1) := by decide +kernel
theorem dX12_weightOf_39 : decode cX12_weightOf 39 = .ok (.istore_n 3, 1) := by decide +kernel
theorem dX12_weightOf_40 : decode cX12_weightOf 40 = .ok (.iinc 4 1, 3) := by decide +kernel
theorem dX12_weightOf_43 : decode cX12_weightOf 43 = .ok (.goto (-38), 3) := by decide +kernel
theorem dX12_weightOf_46 : decode cX12_weightOf 46 = .ok (.iload_n 3, 1) := by decide +kernel
theorem dX12_weightOf_47 : decode cX12_weightOf 47 = .ok (.ireturn, 1) := by decide +kernel
theorem dX12_allOf_0 : decode cX12_allOf 0 = .ok (.iconst 1, 1) := by decide +kernel
theorem dX12_allOf_1 : decode cX12_allOf 1 = .ok (.aload_n 0, 1) := by decide +kernel
theorem dX12_allOf_2 : decode cX12_allOf 2 = .ok (.bipush 10, 2) := by decide +kernel
theorem dX12_allOf_4 : decode cX12_allOf 4 = .ok (.iload_n 1, 1) := by decide +kernel
theorem dX12_allOf_5 : decode cX12_allOf 5 = .ok (.iadd, 1) := by decide +kernel
theorem dX12_allOf_6 : decode cX12_allOf 6 = .ok (.iaload, 1) := by decide +kernel
theorem dX12_allOf_7 : decode cX12_allOf 7 = .ok (.ishl, 1) := by decide +kernel
theorem dX12_allOf_8 : decode cX12_allOf 8 = .ok (.iconst 1, 1) := by decide +kernel
theorem dX12_allOf_9 : decode cX12_allOf 9 = .ok (.isub, 1) := by decide +kernel
theorem dX12_allOf_10 : decode cX12_allOf 10 = .ok (.ireturn, 1) := by decide +kernel
theorem dX12_spring_0 : decode cX12_spring 0 = .ok (.iconst 3, 1) := by decide +kernel
theorem dX12_spring_1 : decode cX12_spring 1 = .ok (.istore_n 2, 1) := by decide +kernel
theorem dX12_spring_2 : decode cX12_spring 2 = .ok (.aload_n 0, 1) := by decide +kernel
theorem dX12_spring_3 : decode cX12_spring 3 = .ok (.getfield 180, 3) := by decide +kernel
theorem dX12_spring_6 : decode cX12_spring 6 = .ok (.ifCond .le 115, 3) := by decide +kernel
theorem dX12_spring_9 : decode cX12_spring 9 = .ok (.aload_n 0, 1) := by decide +kernel
theorem dX12_spring_10 : decode cX12_spring 10 = .ok (.getfield 33, 3) := by decide +kernel
theorem dX12_spring_13 : decode cX12_spring 13 = .ok (.iconst 0, 1) := by decide +kernel
theorem dX12_spring_14 : decode cX12_spring 14 = .ok (.aload_n 1, 1) := by decide +kernel
theorem dX12_spring_15 : decode cX12_spring 15 = .ok (.bipush 18, 2) := by decide +kernel
theorem dX12_spring_17 : decode cX12_spring 17 = .ok (.iaload, 1) := by decide +kernel
theorem dX12_spring_18 : decode cX12_spring 18 = .ok (.bipush 7, 2) := by decide +kernel
theorem dX12_spring_20 : decode cX12_spring 20 = .ok (.irem, 1) := by decide +kernel
theorem dX12_spring_21 : decode cX12_spring 21 = .ok (.iastore, 1) := by decide +kernel
theorem dX12_spring_22 : decode cX12_spring 22 = .ok (.aload_n 0, 1) := by decide +kernel
theorem dX12_spring_23 : decode cX12_spring 23 = .ok (.getfield 33, 3) := by decide +kernel
theorem dX12_spring_26 : decode cX12_spring 26 = .ok (.iconst 1, 1) := by decide +kernel
theorem dX12_spring_27 : decode cX12_spring 27 = .ok (.aload_n 1, 1) := by decide +kernel
theorem dX12_spring_28 : decode cX12_spring 28 = .ok (.bipush 14, 2) := by decide +kernel
theorem dX12_spring_30 : decode cX12_spring 30 = .ok (.iaload, 1) := by decide +kernel
theorem dX12_spring_31 : decode cX12_spring 31 = .ok (.iastore, 1) := by decide +kernel
theorem dX12_spring_32 : decode cX12_spring 32 = .ok (.aload_n 0, 1) := by decide +kernel
theorem dX12_spring_33 : decode cX12_spring 33 = .ok (.getfield 33, 3) := by decide +kernel
theorem dX12_spring_36 : decode cX12_spring 36 = .ok (.iconst 2, 1) := by decide +kernel
theorem dX12_spring_37 : decode cX12_spring 37 = .ok (.aload_n 1, 1) := by decide +kernel
theorem dX12_spring_38 : decode cX12_spring 38 = .ok (.bipush 10, 2) := by decide +kernel
theorem dX12_spring_40 : decode cX12_spring 40 = .ok (.iaload, 1) := by decide +kernel
theorem dX12_spring_41 : decode cX12_spring 41 = .ok (.iastore, 1) := by decide +kernel
theorem dX12_spring_42 : decode cX12_spring 42 = .ok (.aload_n 0, 1) := by decide +kernel
theorem dX12_spring_43 : decode cX12_spring 43 = .ok (.getfield 33, 3) := by decide +kernel
theorem dX12_spring_46 : decode cX12_spring 46 = .ok (.iconst 3, 1) := by decide +kernel
theorem dX12_spring_47 : decode cX12_spring 47 = .ok (.aload_n 1, 1) := by decide +kernel
theorem dX12_spring_48 : decode cX12_spring 48 = .ok (.bipush 11, 2) := by decide +kernel
theorem dX12_spring_50 : decode cX12_spring 50 = .ok (.iaload, 1) := by decide +kernel
theorem dX12_spring_51 : decode cX12_spring 51 = .ok (.iastore, 1) := by decide +kernel
theorem dX12_spring_52 : decode cX12_spring 52 = .ok (.aload_n 0, 1) := by decide +kernel
theorem dX12_spring_53 : decode cX12_spring 53 = .ok (.getfield 33, 3) := by decide +kernel
theorem dX12_spring_56 : decode cX12_spring 56 = .ok (.iconst 4, 1) := by decide +kernel
theorem dX12_spring_57 : decode cX12_spring 57 = .ok (.aload_n 1, 1) := by decide +kernel
theorem dX12_spring_58 : decode cX12_spring 58 = .ok (.iconst 0, 1) := by decide +kernel
theorem dX12_spring_59 : decode cX12_spring 59 = .ok (.aload_n 1, 1) := by decide +kernel
theorem dX12_spring_60 : decode cX12_spring 60 = .ok (.iconst 0, 1) := by decide +kernel
theorem dX12_spring_61 : decode cX12_spring 61 = .ok (.invokestatic 187, 3) := by decide +kernel
theorem dX12_spring_64 : decode cX12_spring 64 = .ok (.invokestatic 191, 3) := by decide +kernel
theorem dX12_spring_67 : decode cX12_spring 67 = .ok (.iastore, 1) := by decide +kernel
theorem dX12_spring_68 : decode cX12_spring 68 = .ok (.aload_n 0, 1) := by decide +kernel
theorem dX12_spring_69 : decode cX12_spring 69 = .ok (.getfield 33, 3) := by decide +kernel
theorem dX12_spring_72 : decode cX12_spring 72 = .ok (.iconst 5, 1) := by decide +kernel
theorem dX12_spring_73 : decode cX12_spring 73 = .ok (.aload_n 1, 1) := by decide +kernel
theorem dX12_spring_74 : decode cX12_spring 74 = .ok (.bipush 13, 2) := by decide +kernel
theorem dX12_spring_76 : decode cX12_spring 76 = .ok (.iaload, 1) := by decide +kernel
theorem dX12_spring_77 : decode cX12_spring 77 = .ok (.iastore, 1) := by decide +kernel
theorem dX12_spring_78 : decode cX12_spring 78 = .ok (.aload_n 0, 1) := by decide +kernel
theorem dX12_spring_79 : decode cX12_spring 79 = .ok (.getfield 33, 3) := by decide +kernel
theorem dX12_spring_82 : decode cX12_spring 82 = .ok (.bipush 6, 2) := by decide +kernel
theorem dX12_spring_84 : decode cX12_spring 84 = .ok (.aload_n 1, 1) := by decide +kernel
theorem dX12_spring_85 : decode cX12_spring 85 = .ok (.bipush 17, 2) := by decide +kernel
theorem dX12_spring_87 : decode cX12_spring 87 = .ok (.iaload, 1) := by decide +kernel
theorem dX12_spring_88 : decode cX12_spring 88 = .ok (.iconst 5, 1) := by decide +kernel
theorem dX12_spring_89 : decode cX12_spring 89 = .ok (.irem, 1) := by decide +kernel
theorem dX12_spring_90 : decode cX12_spring 90 = .ok (.iastore, 1) := by decide +kernel
theorem dX12_spring_91 : decode cX12_spring 91 = .ok (.aload_n 0, 1) := by decide +kernel
theorem dX12_spring_92 : decode cX12_spring 92 = .ok (.aload_n 0, 1) := by decide +kernel
theorem dX12_spring_93 : decode cX12_spring 93 = .ok (.getfield 27, 3) := by decide +kernel
theorem dX12_spring_96 : decode cX12_spring 96 = .ok (.aload_n 0, 1) := by decide +kernel
theorem dX12_spring_97 : decode cX12_spring 97 = .ok (.getfield 180, 3) := by decide +kernel
theorem dX12_spring_100 : decode cX12_spring 100 = .ok (.bipush 40, 2) := by decide +kernel
theorem dX12_spring_102 : decode cX12_spring 102 = .ok (.invokevirtual 111, 3) := by decide +kernel
theorem dX12_spring_105 : decode cX12_spring 105 = .ok (.aload_n 0, 1) := by decide +kernel
theorem dX12_spring_106 : decode cX12_spring 106 = .ok (.iconst 1, 1) := by decide +kernel
theorem dX12_spring_107 : decode cX12_spring 107 = .ok (.putfield 173, 3) := by decide +kernel
theorem dX12_spring_110 : decode cX12_spring 110 = .ok (.aload_n 0, 1) := by decide +kernel
theorem dX12_spring_111 : decode cX12_spring 111 = .ok (.iconst 0, 1) := by decide +kernel
theorem dX12_spring_112 : decode cX12_spring 112 = .ok (.invokevirtual 160, 3) := by decide +kernel
theorem dX12_spring_115 : decode cX12_spring 115 = .ok (.istore_n 2, 1) := by decide +kernel
theorem dX12_spring_116 : decode cX12_spring 116 = .ok (.aload_n 0, 1) := by decide +kernel
theorem dX12_spring_117 : decode cX12_spring 117 = .ok (.iconst 0, 1) := by decide +kernel
theorem dX12_spring_118 : decode cX12_spring 118 = .ok (.putfield 173, 3) := by decide +kernel
theorem dX12_spring_121 : decode cX12_spring 121 = .ok (.iconst 0, 1) := by decide +kernel
theorem dX12_spring_122 : decode cX12_spring 122 = .ok (.bipush 9, 2) := by decide +kernel
theorem dX12_spring_124 : decode cX12_spring 124 = .ok (.iload_n 2, 1) := by decide +kernel
theorem dX12_spring_125 : decode cX12_spring 125 = .ok (.invokestatic 195, 3) := by decide +kernel
theorem dX12_spring_128 : decode cX12_spring 128 = .ok (.invokestatic 201, 3) := by decide +kernel
theorem dX12_spring_131 : decode cX12_spring 131 = .ok (.ireturn, 1) := by decide +kernel
theorem dX12_party_0 : decode cX12_party 0 = .ok (.aload_n 0, 1) := by decide +kernel
theorem dX12_party_1 : decode cX12_party 1 = .ok (.iconst 0, 1) := by decide +kernel
theorem dX12_party_2 : decode cX12_party 2 = .ok (.putfield 82, 3) := by decide +kernel
theorem dX12_party_5 : decode cX12_party 5 = .ok (.aload_n 0, 1) := by decide +kernel
theorem dX12_party_6 : decode cX12_party 6 = .ok (.iload_n 1, 1) := by decide +kernel
theorem dX12_party_7 : decode cX12_party 7 = .ok (.iload_n 2, 1) := by decide +kernel
theorem dX12_party_8 : decode cX12_party 8 = .ok (.invokevirtual 204, 3) := by decide +kernel
theorem dX12_party_11 : decode cX12_party 11 = .ok (.ifCond .eq 16, 3) := by decide +kernel
theorem dX12_party_14 : decode cX12_party 14 = .ok (.aload_n 0, 1) := by decide +kernel
theorem dX12_party_15 : decode cX12_party 15 = .ok (.getfield 9, 3) := by decide +kernel
theorem dX12_party_18 : decode cX12_party 18 = .ok (.iconst 5, 1) := by decide +kernel
theorem dX12_party_19 : decode cX12_party 19 = .ok (.iload_n 1, 1) := by decide +kernel
theorem dX12_party_20 : decode cX12_party 20 = .ok (.imul, 1) := by decide +kernel
theorem dX12_party_21 : decode cX12_party 21 = .ok (.iload_n 2, 1) := by decide +kernel
theorem dX12_party_22 : decode cX12_party 22 = .ok (.iadd, 1) := by decide +kernel
theorem dX12_party_23 : decode cX12_party 23 = .ok (.iaload, 1) := by decide +kernel
theorem dX12_party_24 : decode cX12_party 24 = .ok (.goto 7, 3) := by decide +kernel
theorem dX12_party_27 : decode cX12_party 27 = .ok (.aload_n 0, 1) := by decide +kernel
theorem dX12_party_28 : decode cX12_party 28 = .ok (.invokevirtual 207, 3) := by decide +kernel
theorem dX12_party_31 : decode cX12_party 31 = .ok (.ireturn, 1) := by decide +kernel
theorem dX12_sheet_0 : decode cX12_sheet 0 = .ok (.aload_n 0, 1) := by decide +kernel
theorem dX12_sheet_1 : decode cX12_sheet 1 = .ok (.iconst 0, 1) := by decide +kernel
theorem dX12_sheet_2 : decode cX12_sheet 2 = .ok (.putfield 82, 3) := by decide +kernel
theorem dX12_sheet_5 : decode cX12_sheet 5 = .ok (.iload_n 1, 1) := by decide +kernel
theorem dX12_sheet_6 : decode cX12_sheet 6 = .ok (.iconst 0, 1) := by decide +kernel
theorem dX12_sheet_7 : decode cX12_sheet 7 = .ok (.iconst 3, 1) := by decide +kernel
theorem dX12_sheet_8 : decode cX12_sheet 8 = .ok (.invokestatic 89, 3) := by decide +kernel
theorem dX12_sheet_11 : decode cX12_sheet 11 = .ok (.ifCond .eq 8, 3) := by decide +kernel
theorem dX12_sheet_14 : decode cX12_sheet 14 = .ok (.iload_n 2, 1) := by decide +kernel
theorem dX12_sheet_15 : decode cX12_sheet 15 = .ok (.iconst 5, 1) := by decide +kernel
theorem dX12_sheet_16 : decode cX12_sheet 16 = .ok (.if_icmp .le 5, 3) := by decide +kernel
theorem dX12_sheet_19 : decode cX12_sheet 19 = .ok (.iconst (-1), 1) := by decide +kernel
theorem dX12_sheet_20 : decode cX12_sheet 20 = .ok (.ireturn, 1) := by decide +kernel
theorem dX12_sheet_21 : decode cX12_sheet 21 = .ok (.iload_n 1, 1) := by decide +kernel
theorem dX12_sheet_22 : decode cX12_sheet 22 = .ok (.iconst 3, 1) := by decide +kernel
theorem dX12_sheet_23 : decode cX12_sheet 23 = .ok (.if_icmp .ge 10, 3) := by decide +kernel
theorem dX12_sheet_26 : decode cX12_sheet 26 = .ok (.iload_n 2, 1) := by decide +kernel
theorem dX12_sheet_27 : decode cX12_sheet 27 = .ok (.ifCond .ge 6, 3) := by decide +kernel
theorem dX12_sheet_30 : decode cX12_sheet 30 = .ok (.bipush (-2), 2) := by decide +kernel
theorem dX12_sheet_32 : decode cX12_sheet 32 = .ok (.ireturn, 1) := by decide +kernel
theorem dX12_sheet_33 : decode cX12_sheet 33 = .ok (.iload_n 3, 1) := by decide +kernel
theorem dX12_sheet_34 : decode cX12_sheet 34 = .ok (.istore 5, 2) := by decide +kernel
theorem dX12_sheet_36 : decode cX12_sheet 36 = .ok (.iconst 0, 1) := by decide +kernel
theorem dX12_sheet_37 : decode cX12_sheet 37 = .ok (.istore 6, 2) := by decide +kernel
theorem dX12_sheet_39 : decode cX12_sheet 39 = .ok (.iload 6, 2) := by decide +kernel
theorem dX12_sheet_41 : decode cX12_sheet 41 = .ok (.aload_n 0, 1) := by decide +kernel
theorem dX12_sheet_42 : decode cX12_sheet 42 = .ok (.getfield 9, 3) := by decide +kernel
theorem dX12_sheet_45 : decode cX12_sheet 45 = .ok (.bipush 10, 2) := by decide +kernel
theorem dX12_sheet_47 : decode cX12_sheet 47 = .ok (.iaload, 1) := by decide +kernel
theorem dX12_sheet_48 : decode cX12_sheet 48 = .ok (.if_icmp .ge 74, 3) := by decide +kernel
theorem dX12_sheet_51 : decode cX12_sheet 51 = .ok (.iload_n 1, 1) := by decide +kernel
theorem dX12_sheet_52 : decode cX12_sheet 52 = .ok (.ifCond .ne 9, 3) := by decide +kernel
theorem dX12_sheet_55 : decode cX12_sheet 55 = .ok (.iload 5, 2) := by decide +kernel
theorem dX12_sheet_57 : decode cX12_sheet 57 = .ok (.i2b, 1) := by decide +kernel
theorem dX12_sheet_58 : decode cX12_sheet 58 = .ok (.goto 16, 3) := by decide +kernel
theorem dX12_sheet_61 : decode cX12_sheet 61 = .ok (.iload_n 1, 1) := by decide +kernel
theorem dX12_sheet_62 : decode cX12_sheet 62 = .ok (.iconst 1, 1) := by decide +kernel
theorem dX12_sheet_63 : decode cX12_sheet 63 = .ok (.if_icmp .ne 9, 3) := by decide +kernel
theorem dX12_sheet_66 : decode cX12_sheet 66 = .ok (.iload 5, 2) := by decide +kernel
theorem dX12_sheet_68 : decode cX12_sheet 68 = .ok (.i2s, 1) := by decide +kernel
theorem dX12_sheet_69 : decode cX12_sheet 69 = .ok (.goto 5, 3) := by decide +kernel
theorem dX12_sheet_72 : decode cX12_sheet 72 = .ok (.iload 5, 2) := by decide +kernel
theorem dX12_sheet_74 : decode cX12_sheet 74 = .ok (.istore 7, 2) := by decide +kernel
theorem dX12_sheet_76 : decode cX12_sheet 76 = .ok (.aload_n 0, 1) := by decide +kernel
theorem dX12_sheet_77 : decode cX12_sheet 77 = .ok (.getfield 9, 3) := by decide +kernel
theorem dX12_sheet_80 : decode cX12_sheet 80 = .ok (.iload 6, 2) := by decide +kernel
theorem dX12_sheet_82 : decode cX12_sheet 82 = .ok (.iload_n 1, 1) := by decide +kernel
theorem dX12_sheet_83 : decode cX12_sheet 83 = .ok (.iconst 3, 1) := by decide +kernel
theorem dX12_sheet_84 : decode cX12_sheet 84 = .ok (.if_icmp .eq 9, 3) := by decide +kernel
theorem dX12_sheet_87 : decode cX12_sheet 87 = .ok (.iload 6, 2) := by decide +kernel
theorem dX12_sheet_89 : decode cX12_sheet 89 = .ok (.iload_n 2, 1) := by decide +kernel
theorem dX12_sheet_90 : decode cX12_sheet 90 = .ok (.if_icmp .lt 7, 3) := by decide +kernel
theorem dX12_sheet_93 : decode cX12_sheet 93 = .ok (.iconst 1, 1) := by decide +kernel
theorem dX12_sheet_94 : decode cX12_sheet 94 = .ok (.goto 14, 3) := by decide +kernel
theorem dX12_sheet_97 : decode cX12_sheet 97 = .ok (.iconst 1, 1) := by decide +kernel
theorem dX12_sheet_98 : decode cX12_sheet 98 = .ok (.bipush 9, 2) := by decide +kernel
theorem dX12_sheet_100 : decode cX12_sheet 100 = .ok (.iload 7, 2) := by decide +kernel
theorem dX12_sheet_102 : decode cX12_sheet 102 = .ok (.invokestatic 195, 3) := by decide +kernel
theorem dX12_sheet_105 : decode cX12_sheet 105 = .ok (.invokestatic 201, 3) := by decide +kernel
theorem dX12_sheet_108 : decode cX12_sheet 108 = .ok (.iastore, 1) := by decide +kernel
theorem dX12_sheet_109 : decode cX12_sheet 109 = .ok (.iload 5, 2) := by decide +kernel
theorem dX12_sheet_111 : decode cX12_sheet 111 = .ok (.iload 4, 2) := by decide +kernel
theorem dX12_sheet_113 : decode cX12_sheet 113 = .ok (.iadd, 1) := by decide +kernel
theorem dX12_sheet_114 : decode cX12_sheet 114 = .ok (.istore 5, 2) := by decide +kernel
theorem dX12_sheet_116 : decode cX12_sheet 116 = .ok (.iinc 6 1, 3) := by decide +kernel
theorem dX12_sheet_119 : decode cX12_sheet 119 = .ok (.goto (-80), 3) := by decide +kernel
theorem dX12_sheet_122 : decode cX12_sheet 122 = .ok (.iload_n 1, 1) := by decide +kernel
theorem dX12_sheet_123 : decode cX12_sheet 123 = .ok (.iconst 3, 1) := by decide +kernel
theorem dX12_sheet_124 : decode cX12_sheet 124 = .ok (.if_icmp .ne 8, 3) := by decide +kernel
theorem dX12_sheet_127 : decode cX12_sheet 127 = .ok (.bipush (-3), 2) := by decide +kernel
theorem dX12_sheet_129 : decode cX12_sheet 129 = .ok (.goto 19, 3) := by decide +kernel
theorem dX12_sheet_132 : decode cX12_sheet 132 = .ok (.aload_n 0, 1) := by decide +kernel
theorem dX12_sheet_133 : decode cX12_sheet 133 = .ok (.getfield 9, 3) := by decide +kernel
theorem dX12_sheet_136 : decode cX12_sheet 136 = .ok (.iconst 0, 1) := by decide +kernel
theorem dX12_sheet_137 : decode cX12_sheet 137 = .ok (.aload_n 0, 1) := by decide +kernel
theorem dX12_sheet_138 : decode cX12_sheet 138 = .ok (.getfield 9, 3) := by decide +kernel
theorem dX12_sheet_141 : decode cX12_sheet 141 = .ok (.iconst 0, 1) := by decide +kernel
theorem dX12_sheet_142 : decode cX12_sheet 142 = .ok (.invokestatic 187, 3) := by decide +kernel
theorem dX12_sheet_145 : decode cX12_sheet 145 = .ok (.invokestatic 191, 3) := by decide +kernel
theorem dX12_sheet_148 : decode cX12_sheet 148 = .ok (.ireturn, 1) := by decide +kernel
theorem dX12_lay_0 : decode cX12_lay 0 = .ok (.iconst 0, 1) := by decide +kernel
theorem dX12_lay_1 : decode cX12_lay 1 = .ok (.istore_n 3, 1) := by decide +kernel
theorem dX12_lay_2 : decode cX12_lay 2 = .ok (.iload_n 3, 1) := by decide +kernel
theorem dX12_lay_3 : decode cX12_lay 3 = .ok (.bipush 19, 2) := by decide +kernel
theorem dX12_lay_5 : decode cX12_lay 5 = .ok (.if_icmp .ge 17, 3) := by decide +kernel
theorem dX12_lay_8 : decode cX12_lay 8 = .ok (.aload_n 1, 1) := by decide +kernel
theorem dX12_lay_9 : decode cX12_lay 9 = .ok (.iload_n 2, 1) := by decide +kernel
theorem dX12_lay_10 : decode cX12_lay 10 = .ok (.iload_n 3, 1) := by decide +kernel
theorem dX12_lay_11 : decode cX12_lay 11 = .ok (.iadd, 1) := by decide +kernel
theorem dX12_lay_12 : decode cX12_lay 12 = .ok (.aload_n 0, 1) := by decide +kernel
theorem dX12_lay_13 : decode cX12_lay 13 = .ok (.iload_n 3, 1) := by decide +kernel
theorem dX12_lay_14 : decode cX12_lay 14 = .ok (.iaload, 1) := by decide +kernel
theorem dX12_lay_15 : decode cX12_lay 15 = .ok (.iastore, 1) := by decide +kernel
theorem dX12_lay_16 : decode cX12_lay 16 = .ok (.iinc 3 1, 3) := by decide +kernel
theorem dX12_lay_19 : decode cX12_lay 19 = .ok (.goto (-17), 3) := by decide +kernel
theorem dX12_lay_22 : decode cX12_lay 22 = .ok (.return_, 1) := by decide +kernel
theorem dX12_remember_0 : decode cX12_remember 0 = .ok (.aload_n 0, 1) := by decide +kernel
theorem dX12_remember_1 : decode cX12_remember 1 = .ok (.getfield 147, 3) := by decide +kernel
theorem dX12_remember_4 : decode cX12_remember 4 = .ok (.bipush 12, 2) := by decide +kernel
theorem dX12_remember_6 : decode cX12_remember 6 = .ok (.if_icmp .ne 43, 3) := by decide +kernel
theorem dX12_remember_9 : decode cX12_remember 9 = .ok (.iconst 0, 1) := by decide +kernel
theorem dX12_remember_10 : decode cX12_remember 10 = .ok (.istore_n 2, 1) := by decide +kernel
theorem dX12_remember_11 : decode cX12_remember 11 = .ok (.iload_n 2, 1) := by decide +kernel
theorem dX12_remember_12 : decode cX12_remember 12 = .ok (.sipush 209, 3) := by decide +kernel
theorem dX12_remember_15 : decode cX12_remember 15 = .ok (.if_icmp .ge 24, 3) := by decide +kernel
theorem dX12_remember_18 : decode cX12_remember 18 = .ok (.aload_n 0, 1) := by decide +kernel
theorem dX12_remember_19 : decode cX12_remember 19 = .ok (.getfield 36, 3) := by decide +kernel
theorem dX12_remember_22 : decode cX12_remember 22 = .ok (.iload_n 2, 1) := by decide +kernel
theorem dX12_remember_23 : decode cX12_remember 23 = .ok (.aload_n 0, 1) := by decide +kernel
theorem dX12_remember_24 : decode cX12_remember 24 = .ok (.getfield 36, 3) := by decide +kernel
theorem dX12_remember_27 : decode cX12_remember 27 = .ok (.iload_n 2, 1) := by decide +kernel
theorem dX12_remember_28 : decode cX12_remember 28 = .ok (.bipush 19, 2) := by decide +kernel
theorem dX12_remember_30 : decode cX12_remember 30 = .ok (.iadd, 1) := by decide +kernel
theorem dX12_remember_31 : decode cX12_remember 31 = .ok (.iaload, 1) := by decide +kernel
theorem dX12_remember_32 : decode cX12_remember 32 = .ok (.iastore, 1) := by decide +kernel
theorem dX12_remember_33 : decode cX12_remember 33 = .ok (.iinc 2 1, 3) := by decide +kernel
theorem dX12_remember_36 : decode cX12_remember 36 = .ok (.goto (-25), 3) := by decide +kernel
theorem dX12_remember_39 : decode cX12_remember 39 = .ok (.aload_n 0, 1) := by decide +kernel
theorem dX12_remember_40 : decode cX12_remember 40 = .ok (.dup, 1) := by decide +kernel
theorem dX12_remember_41 : decode cX12_remember 41 = .ok (.getfield 147, 3) := by decide +kernel
theorem dX12_remember_44 : decode cX12_remember 44 = .ok (.iconst 1, 1) := by decide +kernel
theorem dX12_remember_45 : decode cX12_remember 45 = .ok (.isub, 1) := by decide +kernel
theorem dX12_remember_46 : decode cX12_remember 46 = .ok (.putfield 147, 3) := by decide +kernel
theorem dX12_remember_49 : decode cX12_remember 49 = .ok (.aload_n 1, 1) := by decide +kernel
theorem dX12_remember_50 : decode cX12_remember 50 = .ok (.aload_n 0, 1) := by decide +kernel
theorem dX12_remember_51 : decode cX12_remember 51 = .ok (.getfield 36, 3) := by decide +kernel
theorem dX12_remember_54 : decode cX12_remember 54 = .ok (.bipush 19, 2) := by decide +kernel
theorem dX12_remember_56 : decode cX12_remember 56 = .ok (.aload_n 0, 1) := by decide +kernel
theorem dX12_remember_57 : decode cX12_remember 57 = .ok (.getfield 147, 3) := by decide +kernel
theorem dX12_remember_60 : decode cX12_remember 60 = .ok (.imul, 1) := by decide +kernel
theorem dX12_remember_61 : decode cX12_remember 61 = .ok (.invokestatic 210, 3) := by decide +kernel
theorem dX12_remember_64 : decode cX12_remember 64 = .ok (.aload_n 0, 1) := by decide +kernel
theorem dX12_remember_65 : decode cX12_remember 65 = .ok (.dup, 1) := by decide +kernel
theorem dX12_remember_66 : decode cX12_remember 66 = .ok (.getfield 147, 3) := by decide +kernel
theorem dX12_remember_69 : decode cX12_remember 69 = .ok (.iconst 1, 1) := by decide +kernel
theorem dX12_remember_70 : decode cX12_remember 70 = .ok (.iadd, 1) := by decide +kernel
theorem dX12_remember_71 : decode cX12_remember 71 = .ok (.putfield 147, 3) := by decide +kernel
theorem dX12_remember_74 : decode cX12_remember 74 = .ok (.return_, 1) := by decide +kernel
theorem dX12_goMinute_0 : decode cX12_goMinute 0 = .ok (.aload_n 1, 1) := by decide +kernel
theorem dX12_goMinute_1 : decode cX12_goMinute 1 = .ok (.bipush 14, 2) := by decide +kernel
theorem dX12_goMinute_3 : decode cX12_goMinute 3 = .ok (.sipush 999, 3) := by decide +kernel
theorem dX12_goMinute_6 : decode cX12_goMinute 6 = .ok (.aload_n 1, 1) := by decide +kernel
theorem dX12_goMinute_7 : decode cX12_goMinute 7 = .ok (.bipush 14, 2) := by decide +kernel
theorem dX12_goMinute_9 : decode cX12_goMinute 9 = .ok (.iaload, 1) := by decide +kernel
theorem dX12_goMinute_10 : decode cX12_goMinute 10 = .ok (.aload_n 0, 1) := by decide +kernel
theorem dX12_goMinute_11 : decode cX12_goMinute 11 = .ok (.aload_n 1, 1) := by decide +kernel
theorem dX12_goMinute_12 : decode cX12_goMinute 12 = .ok (.invokevirtual 214, 3) := by decide +kernel
theorem dX12_goMinute_15 : decode cX12_goMinute 15 = .ok (.iadd, 1) := by decide +kernel
theorem dX12_goMinute_16 : decode cX12_goMinute 16 = .ok (.invokestatic 195, 3) := by decide +kernel
theorem dX12_goMinute_19 : decode cX12_goMinute 19 = .ok (.iastore, 1) := by decide +kernel
theorem dX12_goMinute_20 : decode cX12_goMinute 20 = .ok (.aload_n 1, 1) := by decide +kernel
theorem dX12_goMinute_21 : decode cX12_goMinute 21 = .ok (.bipush 18, 2) := by decide +kernel
theorem dX12_goMinute_23 : decode cX12_goMinute 23 = .ok (.dup2, 1) := by decide +kernel
theorem dX12_goMinute_24 : decode cX12_goMinute 24 = .ok (.iaload, 1) := by decide +kernel
theorem dX12_goMinute_25 : decode cX12_goMinute 25 = .ok (.iconst 1, 1) := by decide +kernel
theorem dX12_goMinute_26 : decode cX12_goMinute 26 = .ok (.iadd, 1) := by decide +kernel
theorem dX12_goMinute_27 : decode cX12_goMinute 27 = .ok (.iastore, 1) := by decide +kernel
theorem dX12_goMinute_28 : decode cX12_goMinute 28 = .ok (.return_, 1) := by decide +kernel
theorem dX12_water_0 : decode cX12_water 0 = .ok (.iconst 0, 1) := by decide +kernel
theorem dX12_water_1 : decode cX12_water 1 = .ok (.aload_n 0, 1) := by decide +kernel
theorem dX12_water_2 : decode cX12_water 2 = .ok (.iconst 1, 1) := by decide +kernel
theorem dX12_water_3 : decode cX12_water 3 = .ok (.iload_n 2, 1) := by decide +kernel
theorem dX12_water_4 : decode cX12_water 4 = .ok (.invokestatic 191, 3) := by decide +kernel
theorem dX12_water_7 : decode cX12_water 7 = .ok (.aload_n 0, 1) := by decide +kernel
theorem dX12_water_8 : decode cX12_water 8 = .ok (.bipush 13, 2) := by decide +kernel
theorem dX12_water_10 : decode cX12_water 10 = .ok (.iaload, 1) := by decide +kernel
theorem dX12_water_11 : decode cX12_water 11 = .ok (.iadd, 1) := by decide +kernel
theorem dX12_water_12 : decode cX12_water 12 = .ok (.aload_n 0, 1) := by decide +kernel
theorem dX12_water_13 : decode cX12_water 13 = .ok (.iconst 0, 1) := by decide +kernel
theorem dX12_water_14 : decode cX12_water 14 = .ok (.iload_n 1, 1) := by decide +kernel
theorem dX12_water_15 : decode cX12_water 15 = .ok (.invokestatic 191, 3) := by decide +kernel
theorem dX12_water_18 : decode cX12_water 18 = .ok (.isub, 1) := by decide +kernel
theorem dX12_water_19 : decode cX12_water 19 = .ok (.invokestatic 201, 3) := by decide +kernel
theorem dX12_water_22 : decode cX12_water 22 = .ok (.ireturn, 1) := by decide +kernel
theorem dX12_goOut_0 : decode cX12_goOut 0 = .ok (.iconst 0, 1) := by decide +kernel
theorem dX12_goOut_1 : decode cX12_goOut 1 = .ok (.istore_n 3, 1) := by decide +kernel
theorem dX12_goOut_2 : decode cX12_goOut 2 = .ok (.iconst 0, 1) := by decide +kernel
theorem dX12_goOut_3 : decode cX12_goOut 3 = .ok (.istore 4, 2) := by decide +kernel
theorem dX12_goOut_5 : decode cX12_goOut 5 = .ok (.iload 4, 2) := by decide +kernel
theorem dX12_goOut_7 : decode cX12_goOut 7 = .ok (.aload_n 0, 1) := by decide +kernel
theorem dX12_goOut_8 : decode cX12_goOut 8 = .ok (.bipush 10, 2) := by decide +kernel
theorem dX12_goOut_10 : decode cX12_goOut 10 = .ok (.iload_n 1, 1) := by decide +kernel
theorem dX12_goOut_11 : decode cX12_goOut 11 = .ok (.iadd, 1) := by decide +kernel
theorem dX12_goOut_12 : decode cX12_goOut 12 = .ok (.iaload, 1) := by decide +kernel
theorem dX12_goOut_13 : decode cX12_goOut 13 = .ok (.if_icmp .ge 39, 3) := by decide +kernel
theorem dX12_goOut_16 : decode cX12_goOut 16 = .ok (.iload_n 2, 1) := by decide +kernel
theorem dX12_goOut_17 : decode cX12_goOut 17 = .ok (.iload 4, 2) := by decide +kernel
theorem dX12_goOut_19 : decode cX12_goOut 19 = .ok (.invokestatic 183, 3) := by decide +kernel
theorem dX12_goOut_22 : decode cX12_goOut 22 = .ok (.ifCond .eq 6, 3) := by decide +kernel
theorem dX12_goOut_25 : decode cX12_goOut 25 = .ok (.goto 21, 3) := by decide +kernel
theorem dX12_goOut_28 : decode cX12_goOut 28 = .ok (.aload_n 0, 1) := by decide +kernel
theorem dX12_goOut_29 : decode cX12_goOut 29 = .ok (.iconst 5, 1) := by decide +kernel
theorem dX12_goOut_30 : decode cX12_goOut 30 = .ok (.iload_n 1, 1) := by decide +kernel
theorem dX12_goOut_31 : decode cX12_goOut 31 = .ok (.imul, 1) := by decide +kernel
theorem dX12_goOut_32 : decode cX12_goOut 32 = .ok (.iload_n 3, 1) := by decide +kernel
theorem dX12_goOut_33 : decode cX12_goOut 33 = .ok (.iadd, 1) := by decide +kernel
theorem dX12_goOut_34 : decode cX12_goOut 34 = .ok (.aload_n 0, 1) := by decide +kernel
theorem dX12_goOut_35 : decode cX12_goOut 35 = .ok (.iconst 5, 1) := by decide +kernel
theorem dX12_goOut_36 : decode cX12_goOut 36 = .ok (.iload_n 1, 1) := by decide +kernel
theorem dX12_goOut_37 : decode cX12_goOut 37 = .ok (.imul, 1) := by decide +kernel
theorem dX12_goOut_38 : decode cX12_goOut 38 = .ok (.iload 4, 2) := by decide +kernel
theorem dX12_goOut_40 : decode cX12_goOut 40 = .ok (.iadd, 1) := by decide +kernel
theorem dX12_goOut_41 : decode cX12_goOut 41 = .ok (.iaload, 1) := by decide +kernel
theorem dX12_goOut_42 : decode cX12_goOut 42 = .ok (.iastore, 1) := by decide +kernel
theorem dX12_goOut_43 : decode cX12_goOut 43 = .ok (.iinc 3 1, 3) := by decide +kernel
theorem dX12_goOut_46 : decode cX12_goOut 46 = .ok (.iinc 4 1, 3) := by decide +kernel
theorem dX12_goOut_49 : decode cX12_goOut 49 = .ok (.goto (-44), 3) := by decide +kernel
theorem dX12_goOut_52 : decode cX12_goOut 52 = .ok (.iload_n 3, 1) := by decide +kernel
theorem dX12_goOut_53 : decode cX12_goOut 53 = .ok (.istore 4, 2) := by decide +kernel
theorem dX12_goOut_55 : decode cX12_goOut 55 = .ok (.iload 4, 2) := by decide +kernel
theorem dX12_goOut_57 : decode cX12_goOut 57 = .ok (.aload_n 0, 1) := by decide +kernel
theorem dX12_goOut_58 : decode cX12_goOut 58 = .ok (.bipush 10, 2) := by decide +kernel
theorem dX12_goOut_60 : decode cX12_goOut 60 = .ok (.iload_n 1, 1) := by decide +kernel
theorem dX12_goOut_61 : decode cX12_goOut 61 = .ok (.iadd, 1) := by decide +kernel
theorem dX12_goOut_62 : decode cX12_goOut 62 = .ok (.iaload, 1) := by decide +kernel
theorem dX12_goOut_63 : decode cX12_goOut 63 = .ok (.if_icmp .ge 18, 3) := by decide +kernel
theorem dX12_goOut_66 : decode cX12_goOut 66 = .ok (.aload_n 0, 1) := by decide +kernel
theorem dX12_goOut_67 : decode cX12_goOut 67 = .ok (.iconst 5, 1) := by decide +kernel
theorem dX12_goOut_68 : decode cX12_goOut 68 = .ok (.iload_n 1, 1) := by decide +kernel
theorem dX12_goOut_69 : decode cX12_goOut 69 = .ok (.imul, 1) := by decide +kernel
theorem dX12_goOut_70 : decode cX12_goOut 70 = .ok (.iload 4, 2) := by decide +kernel
theorem dX12_goOut_72 : decode cX12_goOut 72 = .ok (.iadd, 1) := by decide +kernel
theorem dX12_goOut_73 : decode cX12_goOut 73 = .ok (.iconst 0, 1) := by decide +kernel
theorem dX12_goOut_74 : decode cX12_goOut 74 = .ok (.iastore, 1) := by decide +kernel
theorem dX12_goOut_75 : decode cX12_goOut 75 = .ok (.iinc 4 1, 3) := by decide +kernel
theorem dX12_goOut_78 : decode cX12_goOut 78 = .ok (.goto (-23), 3) := by decide +kernel
theorem dX12_goOut_81 : decode cX12_goOut 81 = .ok (.aload_n 0, 1) := by decide +kernel
theorem dX12_goOut_82 : decode cX12_goOut 82 = .ok (.bipush 10, 2) := by decide +kernel
theorem dX12_goOut_84 : decode cX12_goOut 84 = .ok (.iload_n 1, 1) := by decide +kernel
theorem dX12_goOut_85 : decode cX12_goOut 85 = .ok (.iadd, 1) := by decide +kernel
theorem dX12_goOut_86 : decode cX12_goOut 86 = .ok (.iload_n 3, 1) := by decide +kernel
theorem dX12_goOut_87 : decode cX12_goOut 87 = .ok (.iastore, 1) := by decide +kernel
theorem dX12_goOut_88 : decode cX12_goOut 88 = .ok (.return_, 1) := by decide +kernel
theorem dX12_goTrip_0 : decode cX12_goTrip 0 = .ok (.aload_n 1, 1) := by decide +kernel
theorem dX12_goTrip_1 : decode cX12_goTrip 1 = .ok (.bipush 14, 2) := by decide +kernel
theorem dX12_goTrip_3 : decode cX12_goTrip 3 = .ok (.dup2, 1) := by decide +kernel
theorem dX12_goTrip_4 : decode cX12_goTrip 4 = .ok (.iaload, 1) := by decide +kernel
theorem dX12_goTrip_5 : decode cX12_goTrip 5 = .ok (.aload_n 1, 1) := by decide +kernel
theorem dX12_goTrip_6 : decode cX12_goTrip 6 = .ok (.iload_n 2, 1) := by decide +kernel
theorem dX12_goTrip_7 : decode cX12_goTrip 7 = .ok (.iload_n 3, 1) := by decide +kernel
theorem dX12_goTrip_8 : decode cX12_goTrip 8 = .ok (.invokestatic 218, 3) := by decide +kernel
theorem dX12_goTrip_11 : decode cX12_goTrip 11 = .ok (.isub, 1) := by decide +kernel
theorem dX12_goTrip_12 : decode cX12_goTrip 12 = .ok (.iastore, 1) := by decide +kernel
theorem dX12_goTrip_13 : decode cX12_goTrip 13 = .ok (.aload_n 1, 1) := by decide +kernel
theorem dX12_goTrip_14 : decode cX12_goTrip 14 = .ok (.bipush 15, 2) := by decide +kernel
theorem dX12_goTrip_16 : decode cX12_goTrip 16 = .ok (.sipush 9999, 3) := by decide +kernel
theorem dX12_goTrip_19 : decode cX12_goTrip 19 = .ok (.aload_n 1, 1) := by decide +kernel
theorem dX12_goTrip_20 : decode cX12_goTrip 20 = .ok (.bipush 15, 2) := by decide +kernel
theorem dX12_goTrip_22 : decode cX12_goTrip 22 = .ok (.iaload, 1) := by decide +kernel
theorem dX12_goTrip_23 : decode cX12_goTrip 23 = .ok (.aload_n 1, 1) := by decide +kernel
theorem dX12_goTrip_24 : decode cX12_goTrip 24 = .ok (.iconst 0, 1) := by decide +kernel
theorem dX12_goTrip_25 : decode cX12_goTrip 25 = .ok (.iload_n 2, 1) := by decide +kernel
theorem dX12_goTrip_26 : decode cX12_goTrip 26 = .ok (.invokestatic 191, 3) := by decide +kernel
theorem dX12_goTrip_29 : decode cX12_goTrip 29 = .ok (.iadd, 1) := by decide +kernel
theorem dX12_goTrip_30 : decode cX12_goTrip 30 = .ok (.invokestatic 195, 3) := by decide +kernel
theorem dX12_goTrip_33 : decode cX12_goTrip 33 = .ok (.iastore, 1) := by decide +kernel
theorem dX12_goTrip_34 : decode cX12_goTrip 34 = .ok (.aload_n 1, 1) := by decide +kernel
theorem dX12_goTrip_35 : decode cX12_goTrip 35 = .ok (.bipush 16, 2) := by decide +kernel
theorem dX12_goTrip_37 : decode cX12_goTrip 37 = .ok (.sipush 9999, 3) := by decide +kernel
theorem dX12_goTrip_40 : decode cX12_goTrip 40 = .ok (.aload_n 1, 1) := by decide +kernel
theorem dX12_goTrip_41 : decode cX12_goTrip 41 = .ok (.bipush 16, 2) := by decide +kernel
theorem dX12_goTrip_43 : decode cX12_goTrip 43 = .ok (.iaload, 1) := by decide +kernel
theorem dX12_goTrip_44 : decode cX12_goTrip 44 = .ok (.aload_n 1, 1) := by decide +kernel
theorem dX12_goTrip_45 : decode cX12_goTrip 45 = .ok (.iconst 1, 1) := by decide +kernel
theorem dX12_goTrip_46 : decode cX12_goTrip 46 = .ok (.iload_n 3, 1) := by decide +kernel
theorem dX12_goTrip_47 : decode cX12_goTrip 47 = .ok (.invokestatic 191, 3) := by decide +kernel
theorem dX12_goTrip_50 : decode cX12_goTrip 50 = .ok (.iadd, 1) := by decide +kernel
theorem dX12_goTrip_51 : decode cX12_goTrip 51 = .ok (.invokestatic 195, 3) := by decide +kernel
theorem dX12_goTrip_54 : decode cX12_goTrip 54 = .ok (.iastore, 1) := by decide +kernel
theorem dX12_goTrip_55 : decode cX12_goTrip 55 = .ok (.aload_n 1, 1) := by decide +kernel
theorem dX12_goTrip_56 : decode cX12_goTrip 56 = .ok (.iconst 0, 1) := by decide +kernel
theorem dX12_goTrip_57 : decode cX12_goTrip 57 = .ok (.iload_n 2, 1) := by decide +kernel
theorem dX12_goTrip_58 : decode cX12_goTrip 58 = .ok (.invokestatic 221, 3) := by decide +kernel
theorem dX12_goTrip_61 : decode cX12_goTrip 61 = .ok (.aload_n 1, 1) := by decide +kernel
theorem dX12_goTrip_62 : decode cX12_goTrip 62 = .ok (.iconst 1, 1) := by decide +kernel
theorem dX12_goTrip_63 : decode cX12_goTrip 63 = .ok (.iload_n 3, 1) := by decide +kernel
theorem dX12_goTrip_64 : decode cX12_goTrip 64 = .ok (.invokestatic 221, 3) := by decide +kernel
theorem dX12_goTrip_67 : decode cX12_goTrip 67 = .ok (.aload_n 1, 1) := by decide +kernel
theorem dX12_goTrip_68 : decode cX12_goTrip 68 = .ok (.bipush 17, 2) := by decide +kernel
theorem dX12_goTrip_70 : decode cX12_goTrip 70 = .ok (.dup2, 1) := by decide +kernel
theorem dX12_goTrip_71 : decode cX12_goTrip 71 = .ok (.iaload, 1) := by decide +kernel
theorem dX12_goTrip_72 : decode cX12_goTrip 72 = .ok (.iconst 1, 1) := by decide +kernel
theorem dX12_goTrip_73 : decode cX12_goTrip 73 = .ok (.iadd, 1) := by decide +kernel
theorem dX12_goTrip_74 : decode cX12_goTrip 74 = .ok (.iastore, 1) := by decide +kernel
theorem dX12_goTrip_75 : decode cX12_goTrip 75 = .ok (.aload_n 0, 1) := by decide +kernel
theorem dX12_goTrip_76 : decode cX12_goTrip 76 = .ok (.aload_n 1, 1) := by decide +kernel
theorem dX12_goTrip_77 : decode cX12_goTrip 77 = .ok (.invokevirtual 225, 3) := by decide +kernel
theorem dX12_goTrip_80 : decode cX12_goTrip 80 = .ok (.iload_n 2, 1) := by decide +kernel
theorem dX12_goTrip_81 : decode cX12_goTrip 81 = .ok (.invokestatic 229, 3) := by decide +kernel
theorem dX12_goTrip_84 : decode cX12_goTrip 84 = .ok (.iload_n 3, 1) := by decide +kernel
theorem dX12_goTrip_85 : decode cX12_goTrip 85 = .ok (.invokestatic 229, 3) := by decide +kernel
theorem dX12_goTrip_88 : decode cX12_goTrip 88 = .ok (.iadd, 1) := by decide +kernel
theorem dX12_goTrip_89 : decode cX12_goTrip 89 = .ok (.ireturn, 1) := by decide +kernel
theorem dX12_nextOf_0 : decode cX12_nextOf 0 = .ok (.iconst 1, 1) := by decide +kernel
theorem dX12_nextOf_1 : decode cX12_nextOf 1 = .ok (.aload_n 0, 1) := by decide +kernel
theorem dX12_nextOf_2 : decode cX12_nextOf 2 = .ok (.bipush 12, 2) := by decide +kernel
theorem dX12_nextOf_4 : decode cX12_nextOf 4 = .ok (.iaload, 1) := by decide +kernel
theorem dX12_nextOf_5 : decode cX12_nextOf 5 = .ok (.aload_n 0, 1) := by decide +kernel
theorem dX12_nextOf_6 : decode cX12_nextOf 6 = .ok (.bipush 10, 2) := by decide +kernel
theorem dX12_nextOf_8 : decode cX12_nextOf 8 = .ok (.iload_n 1, 1) := by decide +kernel
theorem dX12_nextOf_9 : decode cX12_nextOf 9 = .ok (.iadd, 1) := by decide +kernel
theorem dX12_nextOf_10 : decode cX12_nextOf 10 = .ok (.iaload, 1) := by decide +kernel
theorem dX12_nextOf_11 : decode cX12_nextOf 11 = .ok (.invokestatic 195, 3) := by decide +kernel
theorem dX12_nextOf_14 : decode cX12_nextOf 14 = .ok (.ishl, 1) := by decide +kernel
theorem dX12_nextOf_15 : decode cX12_nextOf 15 = .ok (.iconst 1, 1) := by decide +kernel
theorem dX12_nextOf_16 : decode cX12_nextOf 16 = .ok (.isub, 1) := by decide +kernel
theorem dX12_nextOf_17 : decode cX12_nextOf 17 = .ok (.ireturn, 1) := by decide +kernel
theorem dX12_nextWater_0 : decode cX12_nextWater 0 = .ok (.aload_n 0, 1) := by decide +kernel
theorem dX12_nextWater_1 : decode cX12_nextWater 1 = .ok (.aload_n 0, 1) := by decide +kernel
theorem dX12_nextWater_2 : decode cX12_nextWater 2 = .ok (.iconst 0, 1) := by decide +kernel
theorem dX12_nextWater_3 : decode cX12_nextWater 3 = .ok (.invokestatic 234, 3) := by decide +kernel
theorem dX12_nextWater_6 : decode cX12_nextWater 6 = .ok (.aload_n 0, 1) := by decide +kernel
theorem dX12_nextWater_7 : decode cX12_nextWater 7 = .ok (.iconst 1, 1) := by decide +kernel
theorem dX12_nextWater_8 : decode cX12_nextWater 8 = .ok (.invokestatic 234, 3) := by decide +kernel
theorem dX12_nextWater_11 : decode cX12_nextWater 11 = .ok (.invokestatic 218, 3) := by decide +kernel
theorem dX12_nextWater_14 : decode cX12_nextWater 14 = .ok (.ireturn, 1) := by decide +kernel
theorem dX12_goNext_0 : decode cX12_goNext 0 = .ok (.aload_n 0, 1) := by decide +kernel
theorem dX12_goNext_1 : decode cX12_goNext 1 = .ok (.aload_n 1, 1) := by decide +kernel
theorem dX12_goNext_2 : decode cX12_goNext 2 = .ok (.aload_n 1, 1) := by decide +kernel
theorem dX12_goNext_3 : decode cX12_goNext 3 = .ok (.iconst 0, 1) := by decide +kernel
theorem dX12_goNext_4 : decode cX12_goNext 4 = .ok (.invokestatic 234, 3) := by decide +kernel
theorem dX12_goNext_7 : decode cX12_goNext 7 = .ok (.aload_n 1, 1) := by decide +kernel
theorem dX12_goNext_8 : decode cX12_goNext 8 = .ok (.iconst 1, 1) := by decide +kernel
theorem dX12_goNext_9 : decode cX12_goNext 9 = .ok (.invokestatic 234, 3) := by decide +kernel
theorem dX12_goNext_12 : decode cX12_goNext 12 = .ok (.invokevirtual 237, 3) := by decide +kernel
theorem dX12_goNext_15 : decode cX12_goNext 15 = .ok (.ireturn, 1) := by decide +kernel
theorem dX12_canGo_0 : decode cX12_canGo 0 = .ok (.aload_n 0, 1) := by decide +kernel
theorem dX12_canGo_1 : decode cX12_canGo 1 = .ok (.invokestatic 240, 3) := by decide +kernel
theorem dX12_canGo_4 : decode cX12_canGo 4 = .ok (.ifCond .le 18, 3) := by decide +kernel
theorem dX12_canGo_7 : decode cX12_canGo 7 = .ok (.aload_n 0, 1) := by decide +kernel
theorem dX12_canGo_8 : decode cX12_canGo 8 = .ok (.invokestatic 243, 3) := by decide +kernel
theorem dX12_canGo_11 : decode cX12_canGo 11 = .ok (.aload_n 0, 1) := by decide +kernel
theorem dX12_canGo_12 : decode cX12_canGo 12 = .ok (.bipush 14, 2) := by decide +kernel
theorem dX12_canGo_14 : decode cX12_canGo 14 = .ok (.iaload, 1) := by decide +kernel
theorem dX12_canGo_15 : decode cX12_canGo 15 = .ok (.if_icmp .gt 7, 3) := by decide +kernel
theorem dX12_canGo_18 : decode cX12_canGo 18 = .ok (.iconst 1, 1) := by decide +kernel
theorem dX12_canGo_19 : decode cX12_canGo 19 = .ok (.goto 4, 3) := by decide +kernel
theorem dX12_canGo_22 : decode cX12_canGo 22 = .ok (.iconst 0, 1) := by decide +kernel
theorem dX12_canGo_23 : decode cX12_canGo 23 = .ok (.ireturn, 1) := by decide +kernel
theorem dX12_goRunning_0 : decode cX12_goRunning 0 = .ok (.aload_n 1, 1) := by decide +kernel
theorem dX12_goRunning_1 : decode cX12_goRunning 1 = .ok (.invokestatic 246, 3) := by decide +kernel
theorem dX12_goRunning_4 : decode cX12_goRunning 4 = .ok (.istore_n 2, 1) := by decide +kernel
theorem dX12_goRunning_5 : decode cX12_goRunning 5 = .ok (.iload_n 2, 1) := by decide +kernel
theorem dX12_goRunning_6 : decode cX12_goRunning 6 = .ok (.ifCond .eq 12, 3) := by decide +kernel
theorem dX12_goRunning_9 : decode cX12_goRunning 9 = .ok (.aload_n 0, 1) := by decide +kernel
theorem dX12_goRunning_10 : decode cX12_goRunning 10 = .ok (.aload_n 1, 1) := by decide +kernel
theorem dX12_goRunning_11 : decode cX12_goRunning 11 = .ok (.invokevirtual 250, 3) := by decide +kernel
theorem dX12_goRunning_14 : decode cX12_goRunning 14 = .ok (.pop, 1) := by decide +kernel
theorem dX12_goRunning_15 : decode cX12_goRunning 15 = .ok (.goto 8, 3) := by decide +kernel
theorem dX12_goRunning_18 : decode cX12_goRunning 18 = .ok (.aload_n 0, 1) := by decide +kernel
theorem dX12_goRunning_19 : decode cX12_goRunning 19 = .ok (.aload_n 1, 1) := by decide +kernel
theorem dX12_goRunning_20 : decode cX12_goRunning 20 = .ok (.invokevirtual 225, 3) := by decide +kernel
theorem dX12_goRunning_23 : decode cX12_goRunning 23 = .ok (.iload_n 2, 1) := by decide +kernel
theorem dX12_goRunning_24 : decode cX12_goRunning 24 = .ok (.ireturn, 1) := by decide +kernel
theorem dX12_tellTrip_0 : decode cX12_tellTrip 0 = .ok (.aload_n 0, 1) := by decide +kernel
theorem dX12_tellTrip_1 : decode cX12_tellTrip 1 = .ok (.iconst 0, 1) := by decide +kernel
theorem dX12_tellTrip_2 : decode cX12_tellTrip 2 = .ok (.putfield 86, 3) := by decide +kernel
theorem dX12_tellTrip_5 : decode cX12_tellTrip 5 = .ok (.aload_n 0, 1) := by decide +kernel
theorem dX12_tellTrip_6 : decode cX12_tellTrip 6 = .ok (.iload_n 1, 1) := by decide +kernel
theorem dX12_tellTrip_7 : decode cX12_tellTrip 7 = .ok (.i2l, 1) := by decide +kernel
theorem dX12_tellTrip_8 : decode cX12_tellTrip 8 = .ok (.invokevirtual 253, 3) := by decide +kernel
theorem dX12_tellTrip_11 : decode cX12_tellTrip 11 = .ok (.aload_n 0, 1) := by decide +kernel
theorem dX12_tellTrip_12 : decode cX12_tellTrip 12 = .ok (.aload_n 0, 1) := by decide +kernel
theorem dX12_tellTrip_13 : decode cX12_tellTrip 13 = .ok (.getfield 9, 3) := by decide +kernel
theorem dX12_tellTrip_16 : decode cX12_tellTrip 16 = .ok (.bipush 14, 2) := by decide +kernel
theorem dX12_tellTrip_18 : decode cX12_tellTrip 18 = .ok (.iaload, 1) := by decide +kernel
theorem dX12_tellTrip_19 : decode cX12_tellTrip 19 = .ok (.i2l, 1) := by decide +kernel
theorem dX12_tellTrip_20 : decode cX12_tellTrip 20 = .ok (.invokevirtual 253, 3) := by decide +kernel
theorem dX12_tellTrip_23 : decode cX12_tellTrip 23 = .ok (.iload_n 2, 1) := by decide +kernel
theorem dX12_tellTrip_24 : decode cX12_tellTrip 24 = .ok (.ireturn, 1) := by decide +kernel
theorem dX12_refusesTrip_0 : decode cX12_refusesTrip 0 = .ok (.aload_n 0, 1) := by decide +kernel
theorem dX12_refusesTrip_1 : decode cX12_refusesTrip 1 = .ok (.invokestatic 240, 3) := by decide +kernel
theorem dX12_refusesTrip_4 : decode cX12_refusesTrip 4 = .ok (.ifCond .ne 6, 3) := by decide +kernel
theorem dX12_refusesTrip_7 : decode cX12_refusesTrip 7 = .ok (.bipush (-2), 2) := by decide +kernel
theorem dX12_refusesTrip_9 : decode cX12_refusesTrip 9 = .ok (.ireturn, 1) := by decide +kernel
theorem dX12_refusesTrip_10 : decode cX12_refusesTrip 10 = .ok (.aload_n 0, 1) := by decide +kernel
theorem dX12_refusesTrip_11 : decode cX12_refusesTrip 11 = .ok (.invokestatic 243, 3) := by decide +kernel
theorem dX12_refusesTrip_14 : decode cX12_refusesTrip 14 = .ok (.aload_n 0, 1) := by decide +kernel
theorem dX12_refusesTrip_15 : decode cX12_refusesTrip 15 = .ok (.bipush 14, 2) := by decide +kernel
theorem dX12_refusesTrip_17 : decode cX12_refusesTrip 17 = .ok (.iaload, 1) := by decide +kernel
theorem dX12_refusesTrip_18 : decode cX12_refusesTrip 18 = .ok (.if_icmp .le 8, 3) := by decide +kernel
theorem dX12_refusesTrip_21 : decode cX12_refusesTrip 21 = .ok (.bipush (-3), 2) := by decide +kernel
theorem dX12_refusesTrip_23 : decode cX12_refusesTrip 23 = .ok (.goto 4, 3) := by decide +kernel
theorem dX12_refusesTrip_26 : decode cX12_refusesTrip 26 = .ok (.iconst 0, 1) := by decide +kernel
theorem dX12_refusesTrip_27 : decode cX12_refusesTrip 27 = .ok (.ireturn, 1) := by decide +kernel
theorem dX12_trip_0 : decode cX12_trip 0 = .ok (.aload_n 0, 1) := by decide +kernel
theorem dX12_trip_1 : decode cX12_trip 1 = .ok (.iconst 0, 1) := by decide +kernel
theorem dX12_trip_2 : decode cX12_trip 2 = .ok (.putfield 82, 3) := by decide +kernel
theorem dX12_trip_5 : decode cX12_trip 5 = .ok (.aload_n 0, 1) := by decide +kernel
theorem dX12_trip_6 : decode cX12_trip 6 = .ok (.getfield 9, 3) := by decide +kernel
theorem dX12_trip_9 : decode cX12_trip 9 = .ok (.invokestatic 257, 3) := by decide +kernel
theorem dX12_trip_12 : decode cX12_trip 12 = .ok (.istore_n 1, 1) := by decide +kernel
theorem dX12_trip_13 : decode cX12_trip 13 = .ok (.iload_n 1, 1) := by decide +kernel
theorem dX12_trip_14 : decode cX12_trip 14 = .ok (.ifCond .ge 5, 3) := by decide +kernel
theorem dX12_trip_17 : decode cX12_trip 17 = .ok (.iload_n 1, 1) := by decide +kernel
theorem dX12_trip_18 : decode cX12_trip 18 = .ok (.ireturn, 1) := by decide +kernel
theorem dX12_trip_19 : decode cX12_trip 19 = .ok (.aload_n 0, 1) := by decide +kernel
theorem dX12_trip_20 : decode cX12_trip 20 = .ok (.aload_n 0, 1) := by decide +kernel
theorem dX12_trip_21 : decode cX12_trip 21 = .ok (.getfield 9, 3) := by decide +kernel
theorem dX12_trip_24 : decode cX12_trip 24 = .ok (.invokevirtual 260, 3) := by decide +kernel
theorem dX12_trip_27 : decode cX12_trip 27 = .ok (.aload_n 0, 1) := by decide +kernel
theorem dX12_trip_28 : decode cX12_trip 28 = .ok (.getfield 9, 3) := by decide +kernel
theorem dX12_trip_31 : decode cX12_trip 31 = .ok (.invokestatic 243, 3) := by decide +kernel
theorem dX12_trip_34 : decode cX12_trip 34 = .ok (.istore_n 2, 1) := by decide +kernel
theorem dX12_trip_35 : decode cX12_trip 35 = .ok (.aload_n 0, 1) := by decide +kernel
theorem dX12_trip_36 : decode cX12_trip 36 = .ok (.iload_n 2, 1) := by decide +kernel
theorem dX12_trip_37 : decode cX12_trip 37 = .ok (.aload_n 0, 1) := by decide +kernel
theorem dX12_trip_38 : decode cX12_trip 38 = .ok (.aload_n 0, 1) := by decide +kernel
theorem dX12_trip_39 : decode cX12_trip 39 = .ok (.getfield 9, 3) := by decide +kernel
theorem dX12_trip_42 : decode cX12_trip 42 = .ok (.invokevirtual 250, 3) := by decide +kernel
theorem dX12_trip_45 : decode cX12_trip 45 = .ok (.invokevirtual 263, 3) := by decide +kernel
theorem dX12_trip_48 : decode cX12_trip 48 = .ok (.ireturn, 1) := by decide +kernel
theorem dX12_isGroup_0 : decode cX12_isGroup 0 = .ok (.iload_n 3, 1) := by decide +kernel
theorem dX12_isGroup_1 : decode cX12_isGroup 1 = .ok (.iconst 0, 1) := by decide +kernel
theorem dX12_isGroup_2 : decode cX12_isGroup 2 = .ok (.aload_n 1, 1) := by decide +kernel
theorem dX12_isGroup_3 : decode cX12_isGroup 3 = .ok (.iload_n 2, 1) := by decide +kernel
theorem dX12_isGroup_4 : decode cX12_isGroup 4 = .ok (.invokestatic 187, 3) := by decide +kernel
theorem dX12_isGroup_7 : decode cX12_isGroup 7 = .ok (.invokestatic 89, 3) := by decide +kernel
theorem dX12_isGroup_10 : decode cX12_isGroup 10 = .ok (.ifCond .eq 18, 3) := by decide +kernel
theorem dX12_isGroup_13 : decode cX12_isGroup 13 = .ok (.iload_n 3, 1) := by decide +kernel
theorem dX12_isGroup_14 : decode cX12_isGroup 14 = .ok (.invokestatic 229, 3) := by decide +kernel
theorem dX12_isGroup_17 : decode cX12_isGroup 17 = .ok (.aload_n 1, 1) := by decide +kernel
theorem dX12_isGroup_18 : decode cX12_isGroup 18 = .ok (.bipush 12, 2) := by decide +kernel
theorem dX12_isGroup_20 : decode cX12_isGroup 20 = .ok (.iaload, 1) := by decide +kernel
theorem dX12_isGroup_21 : decode cX12_isGroup 21 = .ok (.if_icmp .gt 7, 3) := by decide +kernel
theorem dX12_isGroup_24 : decode cX12_isGroup 24 = .ok (.iconst 1, 1) := by decide +kernel
theorem dX12_isGroup_25 : decode cX12_isGroup 25 = .ok (.goto 4, 3) := by decide +kernel
theorem dX12_isGroup_28 : decode cX12_isGroup 28 = .ok (.iconst 0, 1) := by decide +kernel
theorem dX12_isGroup_29 : decode cX12_isGroup 29 = .ok (.ireturn, 1) := by decide +kernel
theorem dX12_sends_0 : decode cX12_sends 0 = .ok (.aload_n 0, 1) := by decide +kernel
theorem dX12_sends_1 : decode cX12_sends 1 = .ok (.iconst 0, 1) := by decide +kernel
theorem dX12_sends_2 : decode cX12_sends 2 = .ok (.putfield 82, 3) := by decide +kernel
theorem dX12_sends_5 : decode cX12_sends 5 = .ok (.aload_n 0, 1) := by decide +kernel
theorem dX12_sends_6 : decode cX12_sends 6 = .ok (.aload_n 0, 1) := by decide +kernel
theorem dX12_sends_7 : decode cX12_sends 7 = .ok (.getfield 9, 3) := by decide +kernel
theorem dX12_sends_10 : decode cX12_sends 10 = .ok (.iconst 0, 1) := by decide +kernel
theorem dX12_sends_11 : decode cX12_sends 11 = .ok (.iload_n 1, 1) := by decide +kernel
theorem dX12_sends_12 : decode cX12_sends 12 = .ok (.invokevirtual 266, 3) := by decide +kernel
theorem dX12_sends_15 : decode cX12_sends 15 = .ok (.ifCond .eq 16, 3) := by decide +kernel
theorem dX12_sends_18 : decode cX12_sends 18 = .ok (.aload_n 0, 1) := by decide +kernel
theorem dX12_sends_19 : decode cX12_sends 19 = .ok (.aload_n 0, 1) := by decide +kernel
theorem dX12_sends_20 : decode cX12_sends 20 = .ok (.getfield 9, 3) := by decide +kernel
theorem dX12_sends_23 : decode cX12_sends 23 = .ok (.iconst 1, 1) := by decide +kernel
theorem dX12_sends_24 : decode cX12_sends 24 = .ok (.iload_n 2, 1) := by decide +kernel
theorem dX12_sends_25 : decode cX12_sends 25 = .ok (.invokevirtual 266, 3) := by decide +kernel
theorem dX12_sends_28 : decode cX12_sends 28 = .ok (.ifCond .ne 5, 3) := by decide +kernel
theorem dX12_sends_31 : decode cX12_sends 31 = .ok (.iconst (-1), 1) := by decide +kernel
theorem dX12_sends_32 : decode cX12_sends 32 = .ok (.ireturn, 1) := by decide +kernel
theorem dX12_sends_33 : decode cX12_sends 33 = .ok (.iload_n 1, 1) := by decide +kernel
theorem dX12_sends_34 : decode cX12_sends 34 = .ok (.ifCond .ne 10, 3) := by decide +kernel
theorem dX12_sends_37 : decode cX12_sends 37 = .ok (.iload_n 2, 1) := by decide +kernel
theorem dX12_sends_38 : decode cX12_sends 38 = .ok (.ifCond .ne 6, 3) := by decide +kernel
theorem dX12_sends_41 : decode cX12_sends 41 = .ok (.bipush (-2), 2) := by decide +kernel
theorem dX12_sends_43 : decode cX12_sends 43 = .ok (.ireturn, 1) := by decide +kernel
theorem dX12_sends_44 : decode cX12_sends 44 = .ok (.aload_n 0, 1) := by decide +kernel
theorem dX12_sends_45 : decode cX12_sends 45 = .ok (.getfield 9, 3) := by decide +kernel
theorem dX12_sends_48 : decode cX12_sends 48 = .ok (.iload_n 1, 1) := by decide +kernel
theorem dX12_sends_49 : decode cX12_sends 49 = .ok (.iload_n 2, 1) := by decide +kernel
theorem dX12_sends_50 : decode cX12_sends 50 = .ok (.invokestatic 218, 3) := by decide +kernel
theorem dX12_sends_53 : decode cX12_sends 53 = .ok (.istore_n 3, 1) := by decide +kernel
theorem dX12_sends_54 : decode cX12_sends 54 = .ok (.iload_n 3, 1) := by decide +kernel
theorem dX12_sends_55 : decode cX12_sends 55 = .ok (.aload_n 0, 1) := by decide +kernel
theorem dX12_sends_56 : decode cX12_sends 56 = .ok (.getfield 9, 3) := by decide +kernel
theorem dX12_sends_59 : decode cX12_sends 59 = .ok (.bipush 14, 2) := by decide +kernel
theorem dX12_sends_61 : decode cX12_sends 61 = .ok (.iaload, 1) := by decide +kernel
theorem dX12_sends_62 : decode cX12_sends 62 = .ok (.if_icmp .le 6, 3) := by decide +kernel
theorem dX12_sends_65 : decode cX12_sends 65 = .ok (.bipush (-3), 2) := by decide +kernel
theorem dX12_sends_67 : decode cX12_sends 67 = .ok (.ireturn, 1) := by decide +kernel
theorem dX12_sends_68 : decode cX12_sends 68 = .ok (.aload_n 0, 1) := by decide +kernel
theorem dX12_sends_69 : decode cX12_sends 69 = .ok (.aload_n 0, 1) := by decide +kernel
theorem dX12_sends_70 : decode cX12_sends 70 = .ok (.getfield 9, 3) := by decide +kernel
theorem dX12_sends_73 : decode cX12_sends 73 = .ok (.invokevirtual 260, 3) := by decide +kernel
theorem dX12_sends_76 : decode cX12_sends 76 = .ok (.aload_n 0, 1) := by decide +kernel
theorem dX12_sends_77 : decode cX12_sends 77 = .ok (.iload_n 3, 1) := by decide +kernel
theorem dX12_sends_78 : decode cX12_sends 78 = .ok (.aload_n 0, 1) := by decide +kernel
theorem dX12_sends_79 : decode cX12_sends 79 = .ok (.aload_n 0, 1) := by decide +kernel
theorem dX12_sends_80 : decode cX12_sends 80 = .ok (.getfield 9, 3) := by decide +kernel
theorem dX12_sends_83 : decode cX12_sends 83 = .ok (.iload_n 1, 1) := by decide +kernel
theorem dX12_sends_84 : decode cX12_sends 84 = .ok (.iload_n 2, 1) := by decide +kernel
theorem dX12_sends_85 : decode cX12_sends 85 = .ok (.invokevirtual 237, 3) := by decide +kernel
theorem dX12_sends_88 : decode cX12_sends 88 = .ok (.invokevirtual 263, 3) := by decide +kernel
theorem dX12_sends_91 : decode cX12_sends 91 = .ok (.ireturn, 1) := by decide +kernel
theorem dX12_goRuns_0 : decode cX12_goRuns 0 = .ok (.iconst 0, 1) := by decide +kernel
theorem dX12_goRuns_1 : decode cX12_goRuns 1 = .ok (.istore_n 3, 1) := by decide +kernel
theorem dX12_goRuns_2 : decode cX12_goRuns 2 = .ok (.aload_n 0, 1) := by decide +kernel
theorem dX12_goRuns_3 : decode cX12_goRuns 3 = .ok (.iconst 0, 1) := by decide +kernel
theorem dX12_goRuns_4 : decode cX12_goRuns 4 = .ok (.putfield 270, 3) := by decide +kernel
theorem dX12_goRuns_7 : decode cX12_goRuns 7 = .ok (.iconst 0, 1) := by decide +kernel
theorem dX12_goRuns_8 : decode cX12_goRuns 8 = .ok (.istore 4, 2) := by decide +kernel
theorem dX12_goRuns_10 : decode cX12_goRuns 10 = .ok (.iload 4, 2) := by decide +kernel
theorem dX12_goRuns_12 : decode cX12_goRuns 12 = .ok (.iload_n 2, 1) := by decide +kernel
theorem dX12_goRuns_13 : decode cX12_goRuns 13 = .ok (.if_icmp .ge 52, 3) := by decide +kernel
theorem dX12_goRuns_16 : decode cX12_goRuns 16 = .ok (.aload_n 1, 1) := by decide +kernel
theorem dX12_goRuns_17 : decode cX12_goRuns 17 = .ok (.invokestatic 240, 3) := by decide +kernel
theorem dX12_goRuns_20 : decode cX12_goRuns 20 = .ok (.ifCond .le 7, 3) := by decide +kernel
theorem dX12_goRuns_23 : decode cX12_goRuns 23 = .ok (.iconst 1, 1) := by decide +kernel
theorem dX12_goRuns_24 : decode cX12_goRuns 24 = .ok (.goto 4, 3) := by decide +kernel
theorem dX12_goRuns_27 : decode cX12_goRuns 27 = .ok (.iconst 0, 1) := by decide +kernel
theorem dX12_goRuns_28 : decode cX12_goRuns 28 = .ok (.istore 5, 2) := by decide +kernel
theorem dX12_goRuns_30 : decode cX12_goRuns 30 = .ok (.aload_n 0, 1) := by decide +kernel
theorem dX12_goRuns_31 : decode cX12_goRuns 31 = .ok (.aload_n 1, 1) := by decide +kernel
theorem dX12_goRuns_32 : decode cX12_goRuns 32 = .ok (.invokevirtual 273, 3) := by decide +kernel
theorem dX12_goRuns_35 : decode cX12_goRuns 35 = .ok (.ifCond .eq 9, 3) := by decide +kernel
theorem dX12_goRuns_38 : decode cX12_goRuns 38 = .ok (.iinc 3 1, 3) := by decide +kernel
theorem dX12_goRuns_41 : decode cX12_goRuns 41 = .ok (.goto 18, 3) := by decide +kernel
theorem dX12_goRuns_44 : decode cX12_goRuns 44 = .ok (.iload 5, 2) := by decide +kernel
theorem dX12_goRuns_46 : decode cX12_goRuns 46 = .ok (.ifCond .eq 13, 3) := by decide +kernel
theorem dX12_goRuns_49 : decode cX12_goRuns 49 = .ok (.aload_n 0, 1) := by decide +kernel
theorem dX12_goRuns_50 : decode cX12_goRuns 50 = .ok (.dup, 1) := by decide +kernel
theorem dX12_goRuns_51 : decode cX12_goRuns 51 = .ok (.getfield 270, 3) := by decide +kernel
theorem dX12_goRuns_54 : decode cX12_goRuns 54 = .ok (.iconst 1, 1) := by decide +kernel
theorem dX12_goRuns_55 : decode cX12_goRuns 55 = .ok (.iadd, 1) := by decide +kernel
theorem dX12_goRuns_56 : decode cX12_goRuns 56 = .ok (.putfield 270, 3) := by decide +kernel
theorem dX12_goRuns_59 : decode cX12_goRuns 59 = .ok (.iinc 4 1, 3) := by decide +kernel
theorem dX12_goRuns_62 : decode cX12_goRuns 62 = .ok (.goto (-52), 3) := by decide +kernel
theorem dX12_goRuns_65 : decode cX12_goRuns 65 = .ok (.iload_n 3, 1) := by decide +kernel
theorem dX12_goRuns_66 : decode cX12_goRuns 66 = .ok (.ireturn, 1) := by decide +kernel
theorem dX12_runs_0 : decode cX12_runs 0 = .ok (.aload_n 0, 1) := by decide +kernel
theorem dX12_runs_1 : decode cX12_runs 1 = .ok (.iconst 0, 1) := by decide +kernel
theorem dX12_runs_2 : decode cX12_runs 2 = .ok (.putfield 82, 3) := by decide +kernel
theorem dX12_runs_5 : decode cX12_runs 5 = .ok (.iload_n 1, 1) := by decide +kernel
theorem dX12_runs_6 : decode cX12_runs 6 = .ok (.iconst 0, 1) := by decide +kernel
theorem dX12_runs_7 : decode cX12_runs 7 = .ok (.bipush 60, 2) := by decide +kernel
theorem dX12_runs_9 : decode cX12_runs 9 = .ok (.invokestatic 89, 3) := by decide +kernel
theorem dX12_runs_12 : decode cX12_runs 12 = .ok (.ifCond .ne 5, 3) := by decide +kernel
theorem dX12_runs_15 : decode cX12_runs 15 = .ok (.iconst (-1), 1) := by decide +kernel
theorem dX12_runs_16 : decode cX12_runs 16 = .ok (.ireturn, 1) := by decide +kernel
theorem dX12_runs_17 : decode cX12_runs 17 = .ok (.aload_n 0, 1) := by decide +kernel
theorem dX12_runs_18 : decode cX12_runs 18 = .ok (.aload_n 0, 1) := by decide +kernel
theorem dX12_runs_19 : decode cX12_runs 19 = .ok (.getfield 9, 3) := by decide +kernel
theorem dX12_runs_22 : decode cX12_runs 22 = .ok (.invokevirtual 260, 3) := by decide +kernel
theorem dX12_runs_25 : decode cX12_runs 25 = .ok (.aload_n 0, 1) := by decide +kernel
theorem dX12_runs_26 : decode cX12_runs 26 = .ok (.aload_n 0, 1) := by decide +kernel
theorem dX12_runs_27 : decode cX12_runs 27 = .ok (.getfield 9, 3) := by decide +kernel
theorem dX12_runs_30 : decode cX12_runs 30 = .ok (.iload_n 1, 1) := by decide +kernel
theorem dX12_runs_31 : decode cX12_runs 31 = .ok (.invokevirtual 276, 3) := by decide +kernel
theorem dX12_runs_34 : decode cX12_runs 34 = .ok (.istore_n 2, 1) := by decide +kernel
theorem dX12_runs_35 : decode cX12_runs 35 = .ok (.aload_n 0, 1) := by decide +kernel
theorem dX12_runs_36 : decode cX12_runs 36 = .ok (.iconst 0, 1) := by decide +kernel
theorem dX12_runs_37 : decode cX12_runs 37 = .ok (.putfield 86, 3) := by decide +kernel
theorem dX12_runs_40 : decode cX12_runs 40 = .ok (.aload_n 0, 1) := by decide +kernel
theorem dX12_runs_41 : decode cX12_runs 41 = .ok (.aload_n 0, 1) := by decide +kernel
theorem dX12_runs_42 : decode cX12_runs 42 = .ok (.getfield 270, 3) := by decide +kernel
theorem dX12_runs_45 : decode cX12_runs 45 = .ok (.i2l, 1) := by decide +kernel
theorem dX12_runs_46 : decode cX12_runs 46 = .ok (.invokevirtual 253, 3) := by decide +kernel
theorem dX12_runs_49 : decode cX12_runs 49 = .ok (.aload_n 0, 1) := by decide +kernel
theorem dX12_runs_50 : decode cX12_runs 50 = .ok (.aload_n 0, 1) := by decide +kernel
theorem dX12_runs_51 : decode cX12_runs 51 = .ok (.getfield 9, 3) := by decide +kernel
theorem dX12_runs_54 : decode cX12_runs 54 = .ok (.bipush 14, 2) := by decide +kernel
theorem dX12_runs_56 : decode cX12_runs 56 = .ok (.iaload, 1) := by decide +kernel
theorem dX12_runs_57 : decode cX12_runs 57 = .ok (.i2l, 1) := by decide +kernel
theorem dX12_runs_58 : decode cX12_runs 58 = .ok (.invokevirtual 253, 3) := by decide +kernel
theorem dX12_runs_61 : decode cX12_runs 61 = .ok (.iload_n 2, 1) := by decide +kernel
theorem dX12_runs_62 : decode cX12_runs 62 = .ok (.ireturn, 1) := by decide +kernel
theorem dX12_refusesGrip_0 : decode cX12_refusesGrip 0 = .ok (.iload_n 1, 1) := by decide +kernel
theorem dX12_refusesGrip_1 : decode cX12_refusesGrip 1 = .ok (.iconst 0, 1) := by decide +kernel
theorem dX12_refusesGrip_2 : decode cX12_refusesGrip 2 = .ok (.bipush 9, 2) := by decide +kernel
theorem dX12_refusesGrip_4 : decode cX12_refusesGrip 4 = .ok (.invokestatic 89, 3) := by decide +kernel
theorem dX12_refusesGrip_7 : decode cX12_refusesGrip 7 = .ok (.ifCond .ne 5, 3) := by decide +kernel
theorem dX12_refusesGrip_10 : decode cX12_refusesGrip 10 = .ok (.iconst (-1), 1) := by decide +kernel
theorem dX12_refusesGrip_11 : decode cX12_refusesGrip 11 = .ok (.ireturn, 1) := by decide +kernel
theorem dX12_refusesGrip_12 : decode cX12_refusesGrip 12 = .ok (.aload_n 0, 1) := by decide +kernel
theorem dX12_refusesGrip_13 : decode cX12_refusesGrip 13 = .ok (.getfield 9, 3) := by decide +kernel
theorem dX12_refusesGrip_16 : decode cX12_refusesGrip 16 = .ok (.bipush 13, 2) := by decide +kernel
theorem dX12_refusesGrip_18 : decode cX12_refusesGrip 18 = .ok (.iaload, 1) := by decide +kernel
theorem dX12_refusesGrip_19 : decode cX12_refusesGrip 19 = .ok (.iload_n 1, 1) := by decide +kernel
theorem dX12_refusesGrip_20 : decode cX12_refusesGrip 20 = .ok (.if_icmp .ne 8, 3) := by decide +kernel
theorem dX12_refusesGrip_23 : decode cX12_refusesGrip 23 = .ok (.bipush (-2), 2) := by decide +kernel
theorem dX12_refusesGrip_25 : decode cX12_refusesGrip 25 = .ok (.goto 4, 3) := by decide +kernel
theorem dX12_refusesGrip_28 : decode cX12_refusesGrip 28 = .ok (.iconst 0, 1) := by decide +kernel
theorem dX12_refusesGrip_29 : decode cX12_refusesGrip 29 = .ok (.ireturn, 1) := by decide +kernel
theorem dX12_grips_0 : decode cX12_grips 0 = .ok (.aload_n 0, 1) := by decide +kernel
theorem dX12_grips_1 : decode cX12_grips 1 = .ok (.iconst 0, 1) := by decide +kernel
theorem dX12_grips_2 : decode cX12_grips 2 = .ok (.putfield 82, 3) := by decide +kernel
theorem dX12_grips_5 : decode cX12_grips 5 = .ok (.aload_n 0, 1) := by decide +kernel
theorem dX12_grips_6 : decode cX12_grips 6 = .ok (.iload_n 1, 1) := by decide +kernel
theorem dX12_grips_7 : decode cX12_grips 7 = .ok (.invokevirtual 279, 3) := by decide +kernel
theorem dX12_grips_10 : decode cX12_grips 10 = .ok (.istore_n 2, 1) := by decide +kernel
theorem dX12_grips_11 : decode cX12_grips 11 = .ok (.iload_n 2, 1) := by decide +kernel
theorem dX12_grips_12 : decode cX12_grips 12 = .ok (.ifCond .ge 5, 3) := by decide +kernel
theorem dX12_grips_15 : decode cX12_grips 15 = .ok (.iload_n 2, 1) := by decide +kernel
theorem dX12_grips_16 : decode cX12_grips 16 = .ok (.ireturn, 1) := by decide +kernel
theorem dX12_grips_17 : decode cX12_grips 17 = .ok (.aload_n 0, 1) := by decide +kernel
theorem dX12_grips_18 : decode cX12_grips 18 = .ok (.aload_n 0, 1) := by decide +kernel
theorem dX12_grips_19 : decode cX12_grips 19 = .ok (.getfield 9, 3) := by decide +kernel
theorem dX12_grips_22 : decode cX12_grips 22 = .ok (.invokevirtual 260, 3) := by decide +kernel
theorem dX12_grips_25 : decode cX12_grips 25 = .ok (.aload_n 0, 1) := by decide +kernel
theorem dX12_grips_26 : decode cX12_grips 26 = .ok (.getfield 9, 3) := by decide +kernel
theorem dX12_grips_29 : decode cX12_grips 29 = .ok (.bipush 13, 2) := by decide +kernel
theorem dX12_grips_31 : decode cX12_grips 31 = .ok (.iaload, 1) := by decide +kernel
theorem dX12_grips_32 : decode cX12_grips 32 = .ok (.istore_n 3, 1) := by decide +kernel
theorem dX12_grips_33 : decode cX12_grips 33 = .ok (.aload_n 0, 1) := by decide +kernel
theorem dX12_grips_34 : decode cX12_grips 34 = .ok (.getfield 9, 3) := by decide +kernel
theorem dX12_grips_37 : decode cX12_grips 37 = .ok (.bipush 13, 2) := by decide +kernel
theorem dX12_grips_39 : decode cX12_grips 39 = .ok (.iload_n 1, 1) := by decide +kernel
theorem dX12_grips_40 : decode cX12_grips 40 = .ok (.iastore, 1) := by decide +kernel
theorem dX12_grips_41 : decode cX12_grips 41 = .ok (.bipush 10, 2) := by decide +kernel
theorem dX12_grips_43 : decode cX12_grips 43 = .ok (.iload_n 3, 1) := by decide +kernel
theorem dX12_grips_44 : decode cX12_grips 44 = .ok (.iadd, 1) := by decide +kernel
theorem dX12_grips_45 : decode cX12_grips 45 = .ok (.ireturn, 1) := by decide +kernel
theorem dX12_refusesSeats_0 : decode cX12_refusesSeats 0 = .ok (.iload_n 1, 1) := by decide +kernel
theorem dX12_refusesSeats_1 : decode cX12_refusesSeats 1 = .ok (.iconst 1, 1) := by decide +kernel
theorem dX12_refusesSeats_2 : decode cX12_refusesSeats 2 = .ok (.iconst 3, 1) := by decide +kernel
theorem dX12_refusesSeats_3 : decode cX12_refusesSeats 3 = .ok (.invokestatic 89, 3) := by decide +kernel
theorem dX12_refusesSeats_6 : decode cX12_refusesSeats 6 = .ok (.ifCond .ne 5, 3) := by decide +kernel
theorem dX12_refusesSeats_9 : decode cX12_refusesSeats 9 = .ok (.iconst (-1), 1) := by decide +kernel
theorem dX12_refusesSeats_10 : decode cX12_refusesSeats 10 = .ok (.ireturn, 1) := by decide +kernel
theorem dX12_refusesSeats_11 : decode cX12_refusesSeats 11 = .ok (.aload_n 0, 1) := by decide +kernel
theorem dX12_refusesSeats_12 : decode cX12_refusesSeats 12 = .ok (.getfield 9, 3) := by decide +kernel
theorem dX12_refusesSeats_15 : decode cX12_refusesSeats 15 = .ok (.bipush 12, 2) := by decide +kernel
theorem dX12_refusesSeats_17 : decode cX12_refusesSeats 17 = .ok (.iaload, 1) := by decide +kernel
theorem dX12_refusesSeats_18 : decode cX12_refusesSeats 18 = .ok (.iload_n 1, 1) := by decide +kernel
theorem dX12_refusesSeats_19 : decode cX12_refusesSeats 19 = .ok (.if_icmp .ne 8, 3) := by decide +kernel
theorem dX12_refusesSeats_22 : decode cX12_refusesSeats 22 = .ok (.bipush (-2), 2) := by decide +kernel
theorem dX12_refusesSeats_24 : decode cX12_refusesSeats 24 = .ok (.goto 4, 3) := by decide +kernel
theorem dX12_refusesSeats_27 : decode cX12_refusesSeats 27 = .ok (.iconst 0, 1) := by decide +kernel
theorem dX12_refusesSeats_28 : decode cX12_refusesSeats 28 = .ok (.ireturn, 1) := by decide +kernel
theorem dX12_seats_0 : decode cX12_seats 0 = .ok (.aload_n 0, 1) := by decide +kernel
theorem dX12_seats_1 : decode cX12_seats 1 = .ok (.iconst 0, 1) := by decide +kernel
theorem dX12_seats_2 : decode cX12_seats 2 = .ok (.putfield 82, 3) := by decide +kernel
theorem dX12_seats_5 : decode cX12_seats 5 = .ok (.aload_n 0, 1) := by decide +kernel
theorem dX12_seats_6 : decode cX12_seats 6 = .ok (.iload_n 1, 1) := by decide +kernel
theorem dX12_seats_7 : decode cX12_seats 7 = .ok (.invokevirtual 282, 3) := by decide +kernel
theorem dX12_seats_10 : decode cX12_seats 10 = .ok (.istore_n 2, 1) := by decide +kernel
theorem dX12_seats_11 : decode cX12_seats 11 = .ok (.iload_n 2, 1) := by decide +kernel
theorem dX12_seats_12 : decode cX12_seats 12 = .ok (.ifCond .ge 5, 3) := by decide +kernel
theorem dX12_seats_15 : decode cX12_seats 15 = .ok (.iload_n 2, 1) := by decide +kernel
theorem dX12_seats_16 : decode cX12_seats 16 = .ok (.ireturn, 1) := by decide +kernel
theorem dX12_seats_17 : decode cX12_seats 17 = .ok (.aload_n 0, 1) := by decide +kernel
theorem dX12_seats_18 : decode cX12_seats 18 = .ok (.aload_n 0, 1) := by decide +kernel
theorem dX12_seats_19 : decode cX12_seats 19 = .ok (.getfield 9, 3) := by decide +kernel
theorem dX12_seats_22 : decode cX12_seats 22 = .ok (.invokevirtual 260, 3) := by decide +kernel
theorem dX12_seats_25 : decode cX12_seats 25 = .ok (.aload_n 0, 1) := by decide +kernel
theorem dX12_seats_26 : decode cX12_seats 26 = .ok (.getfield 9, 3) := by decide +kernel
theorem dX12_seats_29 : decode cX12_seats 29 = .ok (.bipush 12, 2) := by decide +kernel
theorem dX12_seats_31 : decode cX12_seats 31 = .ok (.iaload, 1) := by decide +kernel
theorem dX12_seats_32 : decode cX12_seats 32 = .ok (.istore_n 3, 1) := by decide +kernel
theorem dX12_seats_33 : decode cX12_seats 33 = .ok (.aload_n 0, 1) := by decide +kernel
theorem dX12_seats_34 : decode cX12_seats 34 = .ok (.getfield 9, 3) := by decide +kernel
theorem dX12_seats_37 : decode cX12_seats 37 = .ok (.bipush 12, 2) := by decide +kernel
theorem dX12_seats_39 : decode cX12_seats 39 = .ok (.iload_n 1, 1) := by decide +kernel
theorem dX12_seats_40 : decode cX12_seats 40 = .ok (.iastore, 1) := by decide +kernel
theorem dX12_seats_41 : decode cX12_seats 41 = .ok (.bipush 10, 2) := by decide +kernel
theorem dX12_seats_43 : decode cX12_seats 43 = .ok (.iload_n 3, 1) := by decide +kernel
theorem dX12_seats_44 : decode cX12_seats 44 = .ok (.iadd, 1) := by decide +kernel
theorem dX12_seats_45 : decode cX12_seats 45 = .ok (.ireturn, 1) := by decide +kernel
theorem dX12_leaves_0 : decode cX12_leaves 0 = .ok (.aload_n 0, 1) := by decide +kernel
theorem dX12_leaves_1 : decode cX12_leaves 1 = .ok (.iconst 0, 1) := by decide +kernel
theorem dX12_leaves_2 : decode cX12_leaves 2 = .ok (.putfield 82, 3) := by decide +kernel
theorem dX12_leaves_5 : decode cX12_leaves 5 = .ok (.aload_n 0, 1) := by decide +kernel
theorem dX12_leaves_6 : decode cX12_leaves 6 = .ok (.iload_n 1, 1) := by decide +kernel
theorem dX12_leaves_7 : decode cX12_leaves 7 = .ok (.iload_n 2, 1) := by decide +kernel
theorem dX12_leaves_8 : decode cX12_leaves 8 = .ok (.invokevirtual 204, 3) := by decide +kernel
theorem dX12_leaves_11 : decode cX12_leaves 11 = .ok (.ifCond .ne 5, 3) := by decide +kernel
theorem dX12_leaves_14 : decode cX12_leaves 14 = .ok (.iconst (-1), 1) := by decide +kernel
theorem dX12_leaves_15 : decode cX12_leaves 15 = .ok (.ireturn, 1) := by decide +kernel
theorem dX12_leaves_16 : decode cX12_leaves 16 = .ok (.aload_n 0, 1) := by decide +kernel
theorem dX12_leaves_17 : decode cX12_leaves 17 = .ok (.aload_n 0, 1) := by decide +kernel
theorem dX12_leaves_18 : decode cX12_leaves 18 = .ok (.getfield 9, 3) := by decide +kernel
theorem dX12_leaves_21 : decode cX12_leaves 21 = .ok (.invokevirtual 260, 3) := by decide +kernel
theorem dX12_leaves_24 : decode cX12_leaves 24 = .ok (.aload_n 0, 1) := by decide +kernel
theorem dX12_leaves_25 : decode cX12_leaves 25 = .ok (.getfield 9, 3) := by decide +kernel
theorem dX12_leaves_28 : decode cX12_leaves 28 = .ok (.iload_n 1, 1) := by decide +kernel
theorem dX12_leaves_29 : decode cX12_leaves 29 = .ok (.iconst 1, 1) := by decide +kernel
theorem dX12_leaves_30 : decode cX12_leaves 30 = .ok (.iload_n 2, 1) := by decide +kernel
theorem dX12_leaves_31 : decode cX12_leaves 31 = .ok (.ishl, 1) := by decide +kernel
theorem dX12_leaves_32 : decode cX12_leaves 32 = .ok (.invokestatic 221, 3) := by decide +kernel
theorem dX12_leaves_35 : decode cX12_leaves 35 = .ok (.aload_n 0, 1) := by decide +kernel
theorem dX12_leaves_36 : decode cX12_leaves 36 = .ok (.getfield 9, 3) := by decide +kernel
theorem dX12_leaves_39 : decode cX12_leaves 39 = .ok (.bipush 10, 2) := by decide +kernel
theorem dX12_leaves_41 : decode cX12_leaves 41 = .ok (.iload_n 1, 1) := by decide +kernel
theorem dX12_leaves_42 : decode cX12_leaves 42 = .ok (.iadd, 1) := by decide +kernel
theorem dX12_leaves_43 : decode cX12_leaves 43 = .ok (.iaload, 1) := by decide +kernel
theorem dX12_leaves_44 : decode cX12_leaves 44 = .ok (.ireturn, 1) := by decide +kernel
theorem dX12_refusesSwap_0 : decode cX12_refusesSwap 0 = .ok (.aload_n 0, 1) := by decide +kernel
theorem dX12_refusesSwap_1 : decode cX12_refusesSwap 1 = .ok (.iload_n 1, 1) := by decide +kernel
theorem dX12_refusesSwap_2 : decode cX12_refusesSwap 2 = .ok (.iload_n 2, 1) := by decide +kernel
theorem dX12_refusesSwap_3 : decode cX12_refusesSwap 3 = .ok (.invokevirtual 204, 3) := by decide +kernel
theorem dX12_refusesSwap_6 : decode cX12_refusesSwap 6 = .ok (.ifCond .ne 5, 3) := by decide +kernel
theorem dX12_refusesSwap_9 : decode cX12_refusesSwap 9 = .ok (.iconst (-1), 1) := by decide +kernel
theorem dX12_refusesSwap_10 : decode cX12_refusesSwap 10 = .ok (.ireturn, 1) := by decide +kernel
theorem dX12_refusesSwap_11 : decode cX12_refusesSwap 11 = .ok (.iload_n 2, 1) := by decide +kernel
theorem dX12_refusesSwap_12 : decode cX12_refusesSwap 12 = .ok (.iconst 1, 1) := by decide +kernel
theorem dX12_refusesSwap_13 : decode cX12_refusesSwap 13 = .ok (.iadd, 1) := by decide +kernel
theorem dX12_refusesSwap_14 : decode cX12_refusesSwap 14 = .ok (.aload_n 0, 1) := by decide +kernel
theorem dX12_refusesSwap_15 : decode cX12_refusesSwap 15 = .ok (.getfield 9, 3) := by decide +kernel
theorem dX12_refusesSwap_18 : decode cX12_refusesSwap 18 = .ok (.bipush 10, 2) := by decide +kernel
theorem dX12_refusesSwap_20 : decode cX12_refusesSwap 20 = .ok (.iload_n 1, 1) := by decide +kernel
theorem dX12_refusesSwap_21 : decode cX12_refusesSwap 21 = .ok (.iadd, 1) := by decide +kernel
theorem dX12_refusesSwap_22 : decode cX12_refusesSwap 22 = .ok (.iaload, 1) := by decide +kernel
theorem dX12_refusesSwap_23 : decode cX12_refusesSwap 23 = .ok (.if_icmp .ne 8, 3) := by decide +kernel
theorem dX12_refusesSwap_26 : decode cX12_refusesSwap 26 = .ok (.bipush (-2), 2) := by decide +kernel
theorem dX12_refusesSwap_28 : decode cX12_refusesSwap 28 = .ok (.goto 4, 3) := by decide +kernel
theorem dX12_refusesSwap_31 : decode cX12_refusesSwap 31 = .ok (.iconst 0, 1) := by decide +kernel
theorem dX12_refusesSwap_32 : decode cX12_refusesSwap 32 = .ok (.ireturn, 1) := by decide +kernel
theorem dX12_change_0 : decode cX12_change 0 = .ok (.aload_n 0, 1) := by decide +kernel
theorem dX12_change_1 : decode cX12_change 1 = .ok (.iload_n 1, 1) := by decide +kernel
theorem dX12_change_2 : decode cX12_change 2 = .ok (.iaload, 1) := by decide +kernel
theorem dX12_change_3 : decode cX12_change 3 = .ok (.istore_n 3, 1) := by decide +kernel
theorem dX12_change_4 : decode cX12_change 4 = .ok (.aload_n 0, 1) := by decide +kernel
theorem dX12_change_5 : decode cX12_change 5 = .ok (.iload_n 1, 1) := by decide +kernel
theorem dX12_change_6 : decode cX12_change 6 = .ok (.aload_n 0, 1) := by decide +kernel
theorem dX12_change_7 : decode cX12_change 7 = .ok (.iload_n 2, 1) := by decide +kernel
theorem dX12_change_8 : decode cX12_change 8 = .ok (.iaload, 1) := by decide +kernel
theorem dX12_change_9 : decode cX12_change 9 = .ok (.iastore, 1) := by decide +kernel
theorem dX12_change_10 : decode cX12_change 10 = .ok (.aload_n 0, 1) := by decide +kernel
theorem dX12_change_11 : decode cX12_change 11 = .ok (.iload_n 2, 1) := by decide +kernel
theorem dX12_change_12 : decode cX12_change 12 = .ok (.iload_n 3, 1) := by decide +kernel
theorem dX12_change_13 : decode cX12_change 13 = .ok (.iastore, 1) := by decide +kernel
theorem dX12_change_14 : decode cX12_change 14 = .ok (.return_, 1) := by decide +kernel
theorem dX12_swaps_0 : decode cX12_swaps 0 = .ok (.aload_n 0, 1) := by decide +kernel
theorem dX12_swaps_1 : decode cX12_swaps 1 = .ok (.iconst 0, 1) := by decide +kernel
theorem dX12_swaps_2 : decode cX12_swaps 2 = .ok (.putfield 82, 3) := by decide +kernel
theorem dX12_swaps_5 : decode cX12_swaps 5 = .ok (.aload_n 0, 1) := by decide +kernel
theorem dX12_swaps_6 : decode cX12_swaps 6 = .ok (.iload_n 1, 1) := by decide +kernel
theorem dX12_swaps_7 : decode cX12_swaps 7 = .ok (.iload_n 2, 1) := by decide +kernel
theorem dX12_swaps_8 : decode cX12_swaps 8 = .ok (.invokevirtual 285, 3) := by decide +kernel
theorem dX12_swaps_11 : decode cX12_swaps 11 = .ok (.istore_n 3, 1) := by decide +kernel
theorem dX12_swaps_12 : decode cX12_swaps 12 = .ok (.iload_n 3, 1) := by decide +kernel
theorem dX12_swaps_13 : decode cX12_swaps 13 = .ok (.ifCond .ge 5, 3) := by decide +kernel
theorem dX12_swaps_16 : decode cX12_swaps 16 = .ok (.iload_n 3, 1) := by decide +kernel
theorem dX12_swaps_17 : decode cX12_swaps 17 = .ok (.ireturn, 1) := by decide +kernel
theorem dX12_swaps_18 : decode cX12_swaps 18 = .ok (.aload_n 0, 1) := by decide +kernel
theorem dX12_swaps_19 : decode cX12_swaps 19 = .ok (.aload_n 0, 1) := by decide +kernel
theorem dX12_swaps_20 : decode cX12_swaps 20 = .ok (.getfield 9, 3) := by decide +kernel
theorem dX12_swaps_23 : decode cX12_swaps 23 = .ok (.invokevirtual 260, 3) := by decide +kernel
theorem dX12_swaps_26 : decode cX12_swaps 26 = .ok (.aload_n 0, 1) := by decide +kernel
theorem dX12_swaps_27 : decode cX12_swaps 27 = .ok (.getfield 9, 3) := by decide +kernel
theorem dX12_swaps_30 : decode cX12_swaps 30 = .ok (.iconst 5, 1) := by decide +kernel
theorem dX12_swaps_31 : decode cX12_swaps 31 = .ok (.iload_n 1, 1) := by decide +kernel
theorem dX12_swaps_32 : decode cX12_swaps 32 = .ok (.imul, 1) := by decide +kernel
theorem dX12_swaps_33 : decode cX12_swaps 33 = .ok (.iload_n 2, 1) := by decide +kernel
theorem dX12_swaps_34 : decode cX12_swaps 34 = .ok (.iadd, 1) := by decide +kernel
theorem dX12_swaps_35 : decode cX12_swaps 35 = .ok (.iconst 5, 1) := by decide +kernel
theorem dX12_swaps_36 : decode cX12_swaps 36 = .ok (.iload_n 1, 1) := by decide +kernel
theorem dX12_swaps_37 : decode cX12_swaps 37 = .ok (.imul, 1) := by decide +kernel
theorem dX12_swaps_38 : decode cX12_swaps 38 = .ok (.iload_n 2, 1) := by decide +kernel
theorem dX12_swaps_39 : decode cX12_swaps 39 = .ok (.iadd, 1) := by decide +kernel
theorem dX12_swaps_40 : decode cX12_swaps 40 = .ok (.iconst 1, 1) := by decide +kernel
theorem dX12_swaps_41 : decode cX12_swaps 41 = .ok (.iadd, 1) := by decide +kernel
theorem dX12_swaps_42 : decode cX12_swaps 42 = .ok (.invokestatic 288, 3) := by decide +kernel
theorem dX12_swaps_45 : decode cX12_swaps 45 = .ok (.aload_n 0, 1) := by decide +kernel
theorem dX12_swaps_46 : decode cX12_swaps 46 = .ok (.getfield 9, 3) := by decide +kernel
theorem dX12_swaps_49 : decode cX12_swaps 49 = .ok (.iconst 5, 1) := by decide +kernel
theorem dX12_swaps_50 : decode cX12_swaps 50 = .ok (.iload_n 1, 1) := by decide +kernel
theorem dX12_swaps_51 : decode cX12_swaps 51 = .ok (.imul, 1) := by decide +kernel
theorem dX12_swaps_52 : decode cX12_swaps 52 = .ok (.iload_n 2, 1) := by decide +kernel
theorem dX12_swaps_53 : decode cX12_swaps 53 = .ok (.iadd, 1) := by decide +kernel
theorem dX12_swaps_54 : decode cX12_swaps 54 = .ok (.iaload, 1) := by decide +kernel
theorem dX12_swaps_55 : decode cX12_swaps 55 = .ok (.ireturn, 1) := by decide +kernel
theorem dX12_refusesDrain_0 : decode cX12_refusesDrain 0 = .ok (.iload_n 1, 1) := by decide +kernel
theorem dX12_refusesDrain_1 : decode cX12_refusesDrain 1 = .ok (.iconst 1, 1) := by decide +kernel
theorem dX12_refusesDrain_2 : decode cX12_refusesDrain 2 = .ok (.bipush 99, 2) := by decide +kernel
theorem dX12_refusesDrain_4 : decode cX12_refusesDrain 4 = .ok (.invokestatic 89, 3) := by decide +kernel
theorem dX12_refusesDrain_7 : decode cX12_refusesDrain 7 = .ok (.ifCond .ne 5, 3) := by decide +kernel
theorem dX12_refusesDrain_10 : decode cX12_refusesDrain 10 = .ok (.iconst (-1), 1) := by decide +kernel
theorem dX12_refusesDrain_11 : decode cX12_refusesDrain 11 = .ok (.ireturn, 1) := by decide +kernel
theorem dX12_refusesDrain_12 : decode cX12_refusesDrain 12 = .ok (.aload_n 0, 1) := by decide +kernel
theorem dX12_refusesDrain_13 : decode cX12_refusesDrain 13 = .ok (.getfield 9, 3) := by decide +kernel
theorem dX12_refusesDrain_16 : decode cX12_refusesDrain 16 = .ok (.bipush 14, 2) := by decide +kernel
theorem dX12_refusesDrain_18 : decode cX12_refusesDrain 18 = .ok (.iaload, 1) := by decide +kernel
theorem dX12_refusesDrain_19 : decode cX12_refusesDrain 19 = .ok (.iload_n 1, 1) := by decide +kernel
theorem dX12_refusesDrain_20 : decode cX12_refusesDrain 20 = .ok (.if_icmp .ge 8, 3) := by decide +kernel
theorem dX12_refusesDrain_23 : decode cX12_refusesDrain 23 = .ok (.bipush (-2), 2) := by decide +kernel
theorem dX12_refusesDrain_25 : decode cX12_refusesDrain 25 = .ok (.goto 4, 3) := by decide +kernel
theorem dX12_refusesDrain_28 : decode cX12_refusesDrain 28 = .ok (.iconst 0, 1) := by decide +kernel
theorem dX12_refusesDrain_29 : decode cX12_refusesDrain 29 = .ok (.ireturn, 1) := by decide +kernel
theorem dX12_drains_0 : decode cX12_drains 0 = .ok (.aload_n 0, 1) := by decide +kernel
theorem dX12_drains_1 : decode cX12_drains 1 = .ok (.iconst 0, 1) := by decide +kernel
theorem dX12_drains_2 : decode cX12_drains 2 = .ok (.putfield 82, 3) := by decide +kernel
theorem dX12_drains_5 : decode cX12_drains 5 = .ok (.aload_n 0, 1) := by decide +kernel
theorem dX12_drains_6 : decode cX12_drains 6 = .ok (.iload_n 1, 1) := by decide +kernel
theorem dX12_drains_7 : decode cX12_drains 7 = .ok (.invokevirtual 291, 3) := by decide +kernel
theorem dX12_drains_10 : decode cX12_drains 10 = .ok (.istore_n 2, 1) := by decide +kernel
theorem dX12_drains_11 : decode cX12_drains 11 = .ok (.iload_n 2, 1) := by decide +kernel
theorem dX12_drains_12 : decode cX12_drains 12 = .ok (.ifCond .ge 5, 3) := by decide +kernel
theorem dX12_drains_15 : decode cX12_drains 15 = .ok (.iload_n 2, 1) := by decide +kernel
theorem dX12_drains_16 : decode cX12_drains 16 = .ok (.ireturn, 1) := by decide +kernel
theorem dX12_drains_17 : decode cX12_drains 17 = .ok (.aload_n 0, 1) := by decide +kernel
theorem dX12_drains_18 : decode cX12_drains 18 = .ok (.aload_n 0, 1) := by decide +kernel
theorem dX12_drains_19 : decode cX12_drains 19 = .ok (.getfield 9, 3) := by decide +kernel
theorem dX12_drains_22 : decode cX12_drains 22 = .ok (.invokevirtual 260, 3) := by decide +kernel
theorem dX12_drains_25 : decode cX12_drains 25 = .ok (.aload_n 0, 1) := by decide +kernel
theorem dX12_drains_26 : decode cX12_drains 26 = .ok (.getfield 9, 3) := by decide +kernel
theorem dX12_drains_29 : decode cX12_drains 29 = .ok (.bipush 14, 2) := by decide +kernel
theorem dX12_drains_31 : decode cX12_drains 31 = .ok (.dup2, 1) := by decide +kernel
theorem dX12_drains_32 : decode cX12_drains 32 = .ok (.iaload, 1) := by decide +kernel
theorem dX12_drains_33 : decode cX12_drains 33 = .ok (.iload_n 1, 1) := by decide +kernel
theorem dX12_drains_34 : decode cX12_drains 34 = .ok (.isub, 1) := by decide +kernel
theorem dX12_drains_35 : decode cX12_drains 35 = .ok (.iastore, 1) := by decide +kernel
theorem dX12_drains_36 : decode cX12_drains 36 = .ok (.aload_n 0, 1) := by decide +kernel
theorem dX12_drains_37 : decode cX12_drains 37 = .ok (.getfield 9, 3) := by decide +kernel
theorem dX12_drains_40 : decode cX12_drains 40 = .ok (.bipush 14, 2) := by decide +kernel
theorem dX12_drains_42 : decode cX12_drains 42 = .ok (.iaload, 1) := by decide +kernel
theorem dX12_drains_43 : decode cX12_drains 43 = .ok (.ireturn, 1) := by decide +kernel
theorem dX12_day_0 : decode cX12_day 0 = .ok (.aload_n 0, 1) := by decide +kernel
theorem dX12_day_1 : decode cX12_day 1 = .ok (.iconst 0, 1) := by decide +kernel
theorem dX12_day_2 : decode cX12_day 2 = .ok (.putfield 82, 3) := by decide +kernel
theorem dX12_day_5 : decode cX12_day 5 = .ok (.aload_n 0, 1) := by decide +kernel
theorem dX12_day_6 : decode cX12_day 6 = .ok (.bipush 60, 2) := by decide +kernel
theorem dX12_day_8 : decode cX12_day 8 = .ok (.invokevirtual 135, 3) := by decide +kernel
theorem dX12_day_11 : decode cX12_day 11 = .ok (.iconst 0, 1) := by decide +kernel
theorem dX12_day_12 : decode cX12_day 12 = .ok (.istore_n 1, 1) := by decide +kernel
theorem dX12_day_13 : decode cX12_day 13 = .ok (.aload_n 0, 1) := by decide +kernel
theorem dX12_day_14 : decode cX12_day 14 = .ok (.invokevirtual 115, 3) := by decide +kernel
theorem dX12_day_17 : decode cX12_day 17 = .ok (.ifCond .eq 27, 3) := by decide +kernel
theorem dX12_day_20 : decode cX12_day 20 = .ok (.aload_n 0, 1) := by decide +kernel
theorem dX12_day_21 : decode cX12_day 21 = .ok (.getfield 105, 3) := by decide +kernel
theorem dX12_day_24 : decode cX12_day 24 = .ok (.aload_n 0, 1) := by decide +kernel
theorem dX12_day_25 : decode cX12_day 25 = .ok (.getfield 99, 3) := by decide +kernel
theorem dX12_day_28 : decode cX12_day 28 = .ok (.if_icmp .ge 16, 3) := by decide +kernel
theorem dX12_day_31 : decode cX12_day 31 = .ok (.aload_n 0, 1) := by decide +kernel
theorem dX12_day_32 : decode cX12_day 32 = .ok (.iconst 3, 1) := by decide +kernel
theorem dX12_day_33 : decode cX12_day 33 = .ok (.iload_n 1, 1) := by decide +kernel
theorem dX12_day_34 : decode cX12_day 34 = .ok (.imul, 1) := by decide +kernel
theorem dX12_day_35 : decode cX12_day 35 = .ok (.invokevirtual 294, 3) := by decide +kernel
theorem dX12_day_38 : decode cX12_day 38 = .ok (.iinc 1 1, 3) := by decide +kernel
theorem dX12_day_41 : decode cX12_day 41 = .ok (.goto (-28), 3) := by decide +kernel
theorem dX12_day_44 : decode cX12_day 44 = .ok (.aload_n 0, 1) := by decide +kernel
theorem dX12_day_45 : decode cX12_day 45 = .ok (.invokevirtual 144, 3) := by decide +kernel
theorem dX12_day_48 : decode cX12_day 48 = .ok (.ifCond .ne 10, 3) := by decide +kernel
theorem dX12_day_51 : decode cX12_day 51 = .ok (.iconst (-1), 1) := by decide +kernel
theorem dX12_day_52 : decode cX12_day 52 = .ok (.aload_n 0, 1) := by decide +kernel
theorem dX12_day_53 : decode cX12_day 53 = .ok (.getfield 108, 3) := by decide +kernel
theorem dX12_day_56 : decode cX12_day 56 = .ok (.isub, 1) := by decide +kernel
theorem dX12_day_57 : decode cX12_day 57 = .ok (.ireturn, 1) := by decide +kernel
theorem dX12_day_58 : decode cX12_day 58 = .ok (.aload_n 0, 1) := by decide +kernel
theorem dX12_day_59 : decode cX12_day 59 = .ok (.getfield 9, 3) := by decide +kernel
theorem dX12_day_62 : decode cX12_day 62 = .ok (.aload_n 0, 1) := by decide +kernel
theorem dX12_day_63 : decode cX12_day 63 = .ok (.getfield 39, 3) := by decide +kernel
theorem dX12_day_66 : decode cX12_day 66 = .ok (.iconst 0, 1) := by decide +kernel
theorem dX12_day_67 : decode cX12_day 67 = .ok (.invokestatic 210, 3) := by decide +kernel
theorem dX12_day_70 : decode cX12_day 70 = .ok (.iconst 0, 1) := by decide +kernel
theorem dX12_day_71 : decode cX12_day 71 = .ok (.istore_n 2, 1) := by decide +kernel
theorem dX12_day_72 : decode cX12_day 72 = .ok (.iload_n 2, 1) := by decide +kernel
theorem dX12_day_73 : decode cX12_day 73 = .ok (.iload_n 1, 1) := by decide +kernel
theorem dX12_day_74 : decode cX12_day 74 = .ok (.if_icmp .ge 44, 3) := by decide +kernel
theorem dX12_day_77 : decode cX12_day 77 = .ok (.aload_n 0, 1) := by decide +kernel
theorem dX12_day_78 : decode cX12_day 78 = .ok (.aload_n 0, 1) := by decide +kernel
theorem dX12_day_79 : decode cX12_day 79 = .ok (.getfield 45, 3) := by decide +kernel
theorem dX12_day_82 : decode cX12_day 82 = .ok (.iconst 3, 1) := by decide +kernel
theorem dX12_day_83 : decode cX12_day 83 = .ok (.iload_n 2, 1) := by decide +kernel
theorem dX12_day_84 : decode cX12_day 84 = .ok (.imul, 1) := by decide +kernel
theorem dX12_day_85 : decode cX12_day 85 = .ok (.iaload, 1) := by decide +kernel
theorem dX12_day_86 : decode cX12_day 86 = .ok (.aload_n 0, 1) := by decide +kernel
theorem dX12_day_87 : decode cX12_day 87 = .ok (.getfield 45, 3) := by decide +kernel
theorem dX12_day_90 : decode cX12_day 90 = .ok (.iconst 3, 1) := by decide +kernel
theorem dX12_day_91 : decode cX12_day 91 = .ok (.iload_n 2, 1) := by decide +kernel
theorem dX12_day_92 : decode cX12_day 92 = .ok (.imul, 1) := by decide +kernel
theorem dX12_day_93 : decode cX12_day 93 = .ok (.iconst 1, 1) := by decide +kernel
theorem dX12_day_94 : decode cX12_day 94 = .ok (.iadd, 1) := by decide +kernel
theorem dX12_day_95 : decode cX12_day 95 = .ok (.iaload, 1) := by decide +kernel
theorem dX12_day_96 : decode cX12_day 96 = .ok (.aload_n 0, 1) := by decide +kernel
theorem dX12_day_97 : decode cX12_day 97 = .ok (.getfield 45, 3) := by decide +kernel
theorem dX12_day_100 : decode cX12_day 100 = .ok (.iconst 3, 1) := by decide +kernel
theorem dX12_day_101 : decode cX12_day 101 = .ok (.iload_n 2, 1) := by decide +kernel
theorem dX12_day_102 : decode cX12_day 102 = .ok (.imul, 1) := by decide +kernel
theorem dX12_day_103 : decode cX12_day 103 = .ok (.iconst 2, 1) := by decide +kernel
theorem dX12_day_104 : decode cX12_day 104 = .ok (.iadd, 1) := by decide +kernel
theorem dX12_day_105 : decode cX12_day 105 = .ok (.iaload, 1) := by decide +kernel
theorem dX12_day_106 : decode cX12_day 106 = .ok (.invokevirtual 297, 3) := by decide +kernel
theorem dX12_day_109 : decode cX12_day 109 = .ok (.ifCond .eq 9, 3) := by decide +kernel
theorem dX12_day_112 : decode cX12_day 112 = .ok (.iinc 2 1, 3) := by decide +kernel
theorem dX12_day_115 : decode cX12_day 115 = .ok (.goto (-43), 3) := by decide +kernel
theorem dX12_day_118 : decode cX12_day 118 = .ok (.iload_n 2, 1) := by decide +kernel
theorem dX12_day_119 : decode cX12_day 119 = .ok (.ifCond .le 11, 3) := by decide +kernel
theorem dX12_day_122 : decode cX12_day 122 = .ok (.aload_n 0, 1) := by decide +kernel
theorem dX12_day_123 : decode cX12_day 123 = .ok (.aload_n 0, 1) := by decide +kernel
theorem dX12_day_124 : decode cX12_day 124 = .ok (.getfield 39, 3) := by decide +kernel
theorem dX12_day_127 : decode cX12_day 127 = .ok (.invokevirtual 260, 3) := by decide +kernel
theorem dX12_day_130 : decode cX12_day 130 = .ok (.aload_n 0, 1) := by decide +kernel
theorem dX12_day_131 : decode cX12_day 131 = .ok (.iconst 0, 1) := by decide +kernel
theorem dX12_day_132 : decode cX12_day 132 = .ok (.putfield 86, 3) := by decide +kernel
theorem dX12_day_135 : decode cX12_day 135 = .ok (.aload_n 0, 1) := by decide +kernel
theorem dX12_day_136 : decode cX12_day 136 = .ok (.iload_n 2, 1) := by decide +kernel
theorem dX12_day_137 : decode cX12_day 137 = .ok (.iload_n 1, 1) := by decide +kernel
theorem dX12_day_138 : decode cX12_day 138 = .ok (.if_icmp .ge 7, 3) := by decide +kernel
theorem dX12_day_141 : decode cX12_day 141 = .ok (.lconst 1, 1) := by decide +kernel
theorem dX12_day_142 : decode cX12_day 142 = .ok (.goto 4, 3) := by decide +kernel
theorem dX12_day_145 : decode cX12_day 145 = .ok (.lconst 0, 1) := by decide +kernel
theorem dX12_day_146 : decode cX12_day 146 = .ok (.invokevirtual 253, 3) := by decide +kernel
theorem dX12_day_149 : decode cX12_day 149 = .ok (.aload_n 0, 1) := by decide +kernel
theorem dX12_day_150 : decode cX12_day 150 = .ok (.aload_n 0, 1) := by decide +kernel
theorem dX12_day_151 : decode cX12_day 151 = .ok (.getfield 9, 3) := by decide +kernel
theorem dX12_day_154 : decode cX12_day 154 = .ok (.bipush 14, 2) := by decide +kernel
theorem dX12_day_156 : decode cX12_day 156 = .ok (.iaload, 1) := by decide +kernel
theorem dX12_day_157 : decode cX12_day 157 = .ok (.i2l, 1) := by decide +kernel
theorem dX12_day_158 : decode cX12_day 158 = .ok (.invokevirtual 253, 3) := by decide +kernel
theorem dX12_day_161 : decode cX12_day 161 = .ok (.iload_n 2, 1) := by decide +kernel
theorem dX12_day_162 : decode cX12_day 162 = .ok (.ireturn, 1) := by decide +kernel
theorem dX12_readAct_0 : decode cX12_readAct 0 = .ok (.aload_n 0, 1) := by decide +kernel
theorem dX12_readAct_1 : decode cX12_readAct 1 = .ok (.invokevirtual 119, 3) := by decide +kernel
theorem dX12_readAct_4 : decode cX12_readAct 4 = .ok (.istore_n 2, 1) := by decide +kernel
theorem dX12_readAct_5 : decode cX12_readAct 5 = .ok (.iload_n 2, 1) := by decide +kernel
theorem dX12_readAct_6 : decode cX12_readAct 6 = .ok (.bipush 42, 2) := by decide +kernel
theorem dX12_readAct_8 : decode cX12_readAct 8 = .ok (.if_icmp .eq 48, 3) := by decide +kernel
theorem dX12_readAct_11 : decode cX12_readAct 11 = .ok (.iload_n 2, 1) := by decide +kernel
theorem dX12_readAct_12 : decode cX12_readAct 12 = .ok (.bipush 110, 2) := by decide +kernel
theorem dX12_readAct_14 : decode cX12_readAct 14 = .ok (.if_icmp .eq 42, 3) := by decide +kernel
theorem dX12_readAct_17 : decode cX12_readAct 17 = .ok (.iload_n 2, 1) := by decide +kernel
theorem dX12_readAct_18 : decode cX12_readAct 18 = .ok (.bipush 103, 2) := by decide +kernel
theorem dX12_readAct_20 : decode cX12_readAct 20 = .ok (.if_icmp .eq 36, 3) := by decide +kernel
theorem dX12_readAct_23 : decode cX12_readAct 23 = .ok (.iload_n 2, 1) := by decide +kernel
theorem dX12_readAct_24 : decode cX12_readAct 24 = .ok (.bipush 115, 2) := by decide +kernel
theorem dX12_readAct_26 : decode cX12_readAct 26 = .ok (.if_icmp .eq 30, 3) := by decide +kernel
theorem dX12_readAct_29 : decode cX12_readAct 29 = .ok (.iload_n 2, 1) := by decide +kernel
theorem dX12_readAct_30 : decode cX12_readAct 30 = .ok (.bipush 108, 2) := by decide +kernel
theorem dX12_readAct_32 : decode cX12_readAct 32 = .ok (.if_icmp .eq 24, 3) := by decide +kernel
theorem dX12_readAct_35 : decode cX12_readAct 35 = .ok (.iload_n 2, 1) := by decide +kernel
theorem dX12_readAct_36 : decode cX12_readAct 36 = .ok (.bipush 120, 2) := by decide +kernel
theorem dX12_readAct_38 : decode cX12_readAct 38 = .ok (.if_icmp .eq 18, 3) := by decide +kernel
theorem dX12_readAct_41 : decode cX12_readAct 41 = .ok (.iload_n 2, 1) := by decide +kernel
theorem dX12_readAct_42 : decode cX12_readAct 42 = .ok (.bipush 111, 2) := by decide +kernel
theorem dX12_readAct_44 : decode cX12_readAct 44 = .ok (.if_icmp .eq 12, 3) := by decide +kernel
theorem dX12_readAct_47 : decode cX12_readAct 47 = .ok (.aload_n 0, 1) := by decide +kernel
theorem dX12_readAct_48 : decode cX12_readAct 48 = .ok (.aload_n 0, 1) := by decide +kernel
theorem dX12_readAct_49 : decode cX12_readAct 49 = .ok (.getfield 105, 3) := by decide +kernel
theorem dX12_readAct_52 : decode cX12_readAct 52 = .ok (.invokevirtual 127, 3) := by decide +kernel
theorem dX12_readAct_55 : decode cX12_readAct 55 = .ok (.return_, 1) := by decide +kernel
theorem dX12_readAct_56 : decode cX12_readAct 56 = .ok (.aload_n 0, 1) := by decide +kernel
theorem dX12_readAct_57 : decode cX12_readAct 57 = .ok (.dup, 1) := by decide +kernel
theorem dX12_readAct_58 : decode cX12_readAct 58 = .ok (.getfield 105, 3) := by decide +kernel
theorem dX12_readAct_61 : decode cX12_readAct 61 = .ok (.iconst 1, 1) := by decide +kernel
theorem dX12_readAct_62 : decode cX12_readAct 62 = .ok (.iadd, 1) := by decide +kernel
theorem dX12_readAct_63 : decode cX12_readAct 63 = .ok (.putfield 105, 3) := by decide +kernel
theorem dX12_readAct_66 : decode cX12_readAct 66 = .ok (.aload_n 0, 1) := by decide +kernel
theorem dX12_readAct_67 : decode cX12_readAct 67 = .ok (.getfield 45, 3) := by decide +kernel
theorem dX12_readAct_70 : decode cX12_readAct 70 = .ok (.iload_n 1, 1) := by decide +kernel
theorem dX12_readAct_71 : decode cX12_readAct 71 = .ok (.iload_n 2, 1) := by decide +kernel
theorem dX12_readAct_72 : decode cX12_readAct 72 = .ok (.iastore, 1) := by decide +kernel
theorem dX12_readAct_73 : decode cX12_readAct 73 = .ok (.iload_n 2, 1) := by decide +kernel
theorem dX12_readAct_74 : decode cX12_readAct 74 = .ok (.bipush 42, 2) := by decide +kernel
theorem dX12_readAct_76 : decode cX12_readAct 76 = .ok (.if_icmp .ne 4, 3) := by decide +kernel
theorem dX12_readAct_79 : decode cX12_readAct 79 = .ok (.return_, 1) := by decide +kernel
theorem dX12_readAct_80 : decode cX12_readAct 80 = .ok (.aload_n 0, 1) := by decide +kernel
theorem dX12_readAct_81 : decode cX12_readAct 81 = .ok (.getfield 45, 3) := by decide +kernel
theorem dX12_readAct_84 : decode cX12_readAct 84 = .ok (.iload_n 1, 1) := by decide +kernel
theorem dX12_readAct_85 : decode cX12_readAct 85 = .ok (.iconst 1, 1) := by decide +kernel
theorem dX12_readAct_86 : decode cX12_readAct 86 = .ok (.iadd, 1) := by decide +kernel
theorem dX12_readAct_87 : decode cX12_readAct 87 = .ok (.iload_n 2, 1) := by decide +kernel
theorem dX12_readAct_88 : decode cX12_readAct 88 = .ok (.bipush 115, 2) := by decide +kernel
theorem dX12_readAct_90 : decode cX12_readAct 90 = .ok (.if_icmp .ne 15, 3) := by decide +kernel
theorem dX12_readAct_93 : decode cX12_readAct 93 = .ok (.aload_n 0, 1) := by decide +kernel
theorem dX12_readAct_94 : decode cX12_readAct 94 = .ok (.bipush 49, 2) := by decide +kernel
theorem dX12_readAct_96 : decode cX12_readAct 96 = .ok (.iconst 3, 1) := by decide +kernel
theorem dX12_readAct_97 : decode cX12_readAct 97 = .ok (.invokevirtual 131, 3) := by decide +kernel
theorem dX12_readAct_100 : decode cX12_readAct 100 = .ok (.iconst 1, 1) := by decide +kernel
theorem dX12_readAct_101 : decode cX12_readAct 101 = .ok (.iadd, 1) := by decide +kernel
theorem dX12_readAct_102 : decode cX12_readAct 102 = .ok (.goto 11, 3) := by decide +kernel
theorem dX12_readAct_105 : decode cX12_readAct 105 = .ok (.aload_n 0, 1) := by decide +kernel
theorem dX12_readAct_106 : decode cX12_readAct 106 = .ok (.bipush 48, 2) := by decide +kernel
theorem dX12_readAct_108 : decode cX12_readAct 108 = .ok (.bipush 10, 2) := by decide +kernel
theorem dX12_readAct_110 : decode cX12_readAct 110 = .ok (.invokevirtual 131, 3) := by decide +kernel
theorem dX12_readAct_113 : decode cX12_readAct 113 = .ok (.iastore, 1) := by decide +kernel
theorem dX12_readAct_114 : decode cX12_readAct 114 = .ok (.iload_n 2, 1) := by decide +kernel
theorem dX12_readAct_115 : decode cX12_readAct 115 = .ok (.bipush 108, 2) := by decide +kernel
theorem dX12_readAct_117 : decode cX12_readAct 117 = .ok (.if_icmp .eq 15, 3) := by decide +kernel
theorem dX12_readAct_120 : decode cX12_readAct 120 = .ok (.iload_n 2, 1) := by decide +kernel
theorem dX12_readAct_121 : decode cX12_readAct 121 = .ok (.bipush 120, 2) := by decide +kernel
theorem dX12_readAct_123 : decode cX12_readAct 123 = .ok (.if_icmp .eq 9, 3) := by decide +kernel
theorem dX12_readAct_126 : decode cX12_readAct 126 = .ok (.iload_n 2, 1) := by decide +kernel
theorem dX12_readAct_127 : decode cX12_readAct 127 = .ok (.bipush 111, 2) := by decide +kernel
theorem dX12_readAct_129 : decode cX12_readAct 129 = .ok (.if_icmp .ne 19, 3) := by decide +kernel
theorem dX12_readAct_132 : decode cX12_readAct 132 = .ok (.aload_n 0, 1) := by decide +kernel
theorem dX12_readAct_133 : decode cX12_readAct 133 = .ok (.getfield 45, 3) := by decide +kernel
theorem dX12_readAct_136 : decode cX12_readAct 136 = .ok (.iload_n 1, 1) := by decide +kernel
theorem dX12_readAct_137 : decode cX12_readAct 137 = .ok (.iconst 2, 1) := by decide +kernel
theorem dX12_readAct_138 : decode cX12_readAct 138 = .ok (.iadd, 1) := by decide +kernel
theorem dX12_readAct_139 : decode cX12_readAct 139 = .ok (.aload_n 0, 1) := by decide +kernel
theorem dX12_readAct_140 : decode cX12_readAct 140 = .ok (.bipush 48, 2) := by decide +kernel
theorem dX12_readAct_142 : decode cX12_readAct 142 = .ok (.bipush 10, 2) := by decide +kernel
theorem dX12_readAct_144 : decode cX12_readAct 144 = .ok (.invokevirtual 131, 3) := by decide +kernel
theorem dX12_readAct_147 : decode cX12_readAct 147 = .ok (.iastore, 1) := by decide +kernel
theorem dX12_readAct_148 : decode cX12_readAct 148 = .ok (.return_, 1) := by decide +kernel
theorem dX12_act_0 : decode cX12_act 0 = .ok (.iload_n 1, 1) := by decide +kernel
theorem dX12_act_1 : decode cX12_act 1 = .ok (.lookupswitch 190 #[(42, 59), (103, 94), (108, 134), (110, 82), (115, 114), (120, 158)], 59) := by decide +kernel
theorem dX12_act_60 : decode cX12_act 60 = .ok (.aload_n 0, 1) := by decide +kernel
theorem dX12_act_61 : decode cX12_act 61 = .ok (.getfield 9, 3) := by decide +kernel
theorem dX12_act_64 : decode cX12_act 64 = .ok (.invokestatic 257, 3) := by decide +kernel
theorem dX12_act_67 : decode cX12_act 67 = .ok (.ifCond .ge 5, 3) := by decide +kernel
theorem dX12_act_70 : decode cX12_act 70 = .ok (.iconst 0, 1) := by decide +kernel
theorem dX12_act_71 : decode cX12_act 71 = .ok (.ireturn, 1) := by decide +kernel
theorem dX12_act_72 : decode cX12_act 72 = .ok (.aload_n 0, 1) := by decide +kernel
theorem dX12_act_73 : decode cX12_act 73 = .ok (.aload_n 0, 1) := by decide +kernel
theorem dX12_act_74 : decode cX12_act 74 = .ok (.getfield 9, 3) := by decide +kernel
theorem dX12_act_77 : decode cX12_act 77 = .ok (.invokevirtual 250, 3) := by decide +kernel
theorem dX12_act_80 : decode cX12_act 80 = .ok (.pop, 1) := by decide +kernel
theorem dX12_act_81 : decode cX12_act 81 = .ok (.iconst 1, 1) := by decide +kernel
theorem dX12_act_82 : decode cX12_act 82 = .ok (.ireturn, 1) := by decide +kernel
theorem dX12_act_83 : decode cX12_act 83 = .ok (.aload_n 0, 1) := by decide +kernel
theorem dX12_act_84 : decode cX12_act 84 = .ok (.aload_n 0, 1) := by decide +kernel
theorem dX12_act_85 : decode cX12_act 85 = .ok (.getfield 9, 3) := by decide +kernel
theorem dX12_act_88 : decode cX12_act 88 = .ok (.iload_n 2, 1) := by decide +kernel
theorem dX12_act_89 : decode cX12_act 89 = .ok (.invokevirtual 276, 3) := by decide +kernel
theorem dX12_act_92 : decode cX12_act 92 = .ok (.pop, 1) := by decide +kernel
theorem dX12_act_93 : decode cX12_act 93 = .ok (.iconst 1, 1) := by decide +kernel
theorem dX12_act_94 : decode cX12_act 94 = .ok (.ireturn, 1) := by decide +kernel
theorem dX12_act_95 : decode cX12_act 95 = .ok (.aload_n 0, 1) := by decide +kernel
theorem dX12_act_96 : decode cX12_act 96 = .ok (.iload_n 2, 1) := by decide +kernel
theorem dX12_act_97 : decode cX12_act 97 = .ok (.invokevirtual 279, 3) := by decide +kernel
theorem dX12_act_100 : decode cX12_act 100 = .ok (.ifCond .ge 5, 3) := by decide +kernel
theorem dX12_act_103 : decode cX12_act 103 = .ok (.iconst 0, 1) := by decide +kernel
theorem dX12_act_104 : decode cX12_act 104 = .ok (.ireturn, 1) := by decide +kernel
theorem dX12_act_105 : decode cX12_act 105 = .ok (.aload_n 0, 1) := by decide +kernel
theorem dX12_act_106 : decode cX12_act 106 = .ok (.getfield 9, 3) := by decide +kernel
theorem dX12_act_109 : decode cX12_act 109 = .ok (.bipush 13, 2) := by decide +kernel
theorem dX12_act_111 : decode cX12_act 111 = .ok (.iload_n 2, 1) := by decide +kernel
theorem dX12_act_112 : decode cX12_act 112 = .ok (.iastore, 1) := by decide +kernel
theorem dX12_act_113 : decode cX12_act 113 = .ok (.iconst 1, 1) := by decide +kernel
theorem dX12_act_114 : decode cX12_act 114 = .ok (.ireturn, 1) := by decide +kernel
theorem dX12_act_115 : decode cX12_act 115 = .ok (.aload_n 0, 1) := by decide +kernel
theorem dX12_act_116 : decode cX12_act 116 = .ok (.iload_n 2, 1) := by decide +kernel
theorem dX12_act_117 : decode cX12_act 117 = .ok (.invokevirtual 282, 3) := by decide +kernel
theorem dX12_act_120 : decode cX12_act 120 = .ok (.ifCond .ge 5, 3) := by decide +kernel
theorem dX12_act_123 : decode cX12_act 123 = .ok (.iconst 0, 1) := by decide +kernel
theorem dX12_act_124 : decode cX12_act 124 = .ok (.ireturn, 1) := by decide +kernel
theorem dX12_act_125 : decode cX12_act 125 = .ok (.aload_n 0, 1) := by decide +kernel
theorem dX12_act_126 : decode cX12_act 126 = .ok (.getfield 9, 3) := by decide +kernel
theorem dX12_act_129 : decode cX12_act 129 = .ok (.bipush 12, 2) := by decide +kernel
theorem dX12_act_131 : decode cX12_act 131 = .ok (.iload_n 2, 1) := by decide +kernel
theorem dX12_act_132 : decode cX12_act 132 = .ok (.iastore, 1) := by decide +kernel
theorem dX12_act_133 : decode cX12_act 133 = .ok (.iconst 1, 1) := by decide +kernel
theorem dX12_act_134 : decode cX12_act 134 = .ok (.ireturn, 1) := by decide +kernel
theorem dX12_act_135 : decode cX12_act 135 = .ok (.aload_n 0, 1) := by decide +kernel
theorem dX12_act_136 : decode cX12_act 136 = .ok (.iload_n 2, 1) := by decide +kernel
theorem dX12_act_137 : decode cX12_act 137 = .ok (.iload_n 3, 1) := by decide +kernel
theorem dX12_act_138 : decode cX12_act 138 = .ok (.invokevirtual 204, 3) := by decide +kernel
theorem dX12_act_141 : decode cX12_act 141 = .ok (.ifCond .ne 5, 3) := by decide +kernel
theorem dX12_act_144 : decode cX12_act 144 = .ok (.iconst 0, 1) := by decide +kernel
theorem dX12_act_145 : decode cX12_act 145 = .ok (.ireturn, 1) := by decide +kernel
theorem dX12_act_146 : decode cX12_act 146 = .ok (.aload_n 0, 1) := by decide +kernel
theorem dX12_act_147 : decode cX12_act 147 = .ok (.getfield 9, 3) := by decide +kernel
theorem dX12_act_150 : decode cX12_act 150 = .ok (.iload_n 2, 1) := by decide +kernel
theorem dX12_act_151 : decode cX12_act 151 = .ok (.iconst 1, 1) := by decide +kernel
theorem dX12_act_152 : decode cX12_act 152 = .ok (.iload_n 3, 1) := by decide +kernel
theorem dX12_act_153 : decode cX12_act 153 = .ok (.ishl, 1) := by decide +kernel
theorem dX12_act_154 : decode cX12_act 154 = .ok (.invokestatic 221, 3) := by decide +kernel
theorem dX12_act_157 : decode cX12_act 157 = .ok (.iconst 1, 1) := by decide +kernel
theorem dX12_act_158 : decode cX12_act 158 = .ok (.ireturn, 1) := by decide +kernel
theorem dX12_act_159 : decode cX12_act 159 = .ok (.aload_n 0, 1) := by decide +kernel
theorem dX12_act_160 : decode cX12_act 160 = .ok (.iload_n 2, 1) := by decide +kernel
theorem dX12_act_161 : decode cX12_act 161 = .ok (.iload_n 3, 1) := by decide +kernel
theorem dX12_act_162 : decode cX12_act 162 = .ok (.invokevirtual 285, 3) := by decide +kernel
theorem dX12_act_165 : decode cX12_act 165 = .ok (.ifCond .ge 5, 3) := by decide +kernel
theorem dX12_act_168 : decode cX12_act 168 = .ok (.iconst 0, 1) := by decide +kernel
theorem dX12_act_169 : decode cX12_act 169 = .ok (.ireturn, 1) := by decide +kernel
theorem dX12_act_170 : decode cX12_act 170 = .ok (.aload_n 0, 1) := by decide +kernel
theorem dX12_act_171 : decode cX12_act 171 = .ok (.getfield 9, 3) := by decide +kernel
theorem dX12_act_174 : decode cX12_act 174 = .ok (.iconst 5, 1) := by decide +kernel
theorem dX12_act_175 : decode cX12_act 175 = .ok (.iload_n 2, 1) := by decide +kernel
theorem dX12_act_176 : decode cX12_act 176 = .ok (.imul, 1) := by decide +kernel
theorem dX12_act_177 : decode cX12_act 177 = .ok (.iload_n 3, 1) := by decide +kernel
theorem dX12_act_178 : decode cX12_act 178 = .ok (.iadd, 1) := by decide +kernel
theorem dX12_act_179 : decode cX12_act 179 = .ok (.iconst 5, 1) := by decide +kernel
theorem dX12_act_180 : decode cX12_act 180 = .ok (.iload_n 2, 1) := by decide +kernel
theorem dX12_act_181 : decode cX12_act 181 = .ok (.imul, 1) := by decide +kernel
theorem dX12_act_182 : decode cX12_act 182 = .ok (.iload_n 3, 1) := by decide +kernel
theorem dX12_act_183 : decode cX12_act 183 = .ok (.iadd, 1) := by decide +kernel
theorem dX12_act_184 : decode cX12_act 184 = .ok (.iconst 1, 1) := by decide +kernel
theorem dX12_act_185 : decode cX12_act 185 = .ok (.iadd, 1) := by decide +kernel
theorem dX12_act_186 : decode cX12_act 186 = .ok (.invokestatic 288, 3) := by decide +kernel
theorem dX12_act_189 : decode cX12_act 189 = .ok (.iconst 1, 1) := by decide +kernel
theorem dX12_act_190 : decode cX12_act 190 = .ok (.ireturn, 1) := by decide +kernel
theorem dX12_act_191 : decode cX12_act 191 = .ok (.aload_n 0, 1) := by decide +kernel
theorem dX12_act_192 : decode cX12_act 192 = .ok (.bipush 10, 2) := by decide +kernel
theorem dX12_act_194 : decode cX12_act 194 = .ok (.iload_n 2, 1) := by decide +kernel
theorem dX12_act_195 : decode cX12_act 195 = .ok (.imul, 1) := by decide +kernel
theorem dX12_act_196 : decode cX12_act 196 = .ok (.iload_n 3, 1) := by decide +kernel
theorem dX12_act_197 : decode cX12_act 197 = .ok (.iadd, 1) := by decide +kernel
theorem dX12_act_198 : decode cX12_act 198 = .ok (.invokevirtual 291, 3) := by decide +kernel
theorem dX12_act_201 : decode cX12_act 201 = .ok (.ifCond .ge 5, 3) := by decide +kernel
theorem dX12_act_204 : decode cX12_act 204 = .ok (.iconst 0, 1) := by decide +kernel
theorem dX12_act_205 : decode cX12_act 205 = .ok (.ireturn, 1) := by decide +kernel
theorem dX12_act_206 : decode cX12_act 206 = .ok (.aload_n 0, 1) := by decide +kernel
theorem dX12_act_207 : decode cX12_act 207 = .ok (.getfield 9, 3) := by decide +kernel
theorem dX12_act_210 : decode cX12_act 210 = .ok (.bipush 14, 2) := by decide +kernel
theorem dX12_act_212 : decode cX12_act 212 = .ok (.dup2, 1) := by decide +kernel
theorem dX12_act_213 : decode cX12_act 213 = .ok (.iaload, 1) := by decide +kernel
theorem dX12_act_214 : decode cX12_act 214 = .ok (.bipush 10, 2) := by decide +kernel
theorem dX12_act_216 : decode cX12_act 216 = .ok (.iload_n 2, 1) := by decide +kernel
theorem dX12_act_217 : decode cX12_act 217 = .ok (.imul, 1) := by decide +kernel
theorem dX12_act_218 : decode cX12_act 218 = .ok (.iload_n 3, 1) := by decide +kernel
theorem dX12_act_219 : decode cX12_act 219 = .ok (.iadd, 1) := by decide +kernel
theorem dX12_act_220 : decode cX12_act 220 = .ok (.isub, 1) := by decide +kernel
theorem dX12_act_221 : decode cX12_act 221 = .ok (.iastore, 1) := by decide +kernel
theorem dX12_act_222 : decode cX12_act 222 = .ok (.iconst 1, 1) := by decide +kernel
theorem dX12_act_223 : decode cX12_act 223 = .ok (.ireturn, 1) := by decide +kernel
theorem dX12_undo_0 : decode cX12_undo 0 = .ok (.aload_n 0, 1) := by decide +kernel
theorem dX12_undo_1 : decode cX12_undo 1 = .ok (.iconst 0, 1) := by decide +kernel
theorem dX12_undo_2 : decode cX12_undo 2 = .ok (.putfield 82, 3) := by decide +kernel
theorem dX12_undo_5 : decode cX12_undo 5 = .ok (.aload_n 0, 1) := by decide +kernel
theorem dX12_undo_6 : decode cX12_undo 6 = .ok (.getfield 147, 3) := by decide +kernel
theorem dX12_undo_9 : decode cX12_undo 9 = .ok (.ifCond .ne 5, 3) := by decide +kernel
theorem dX12_undo_12 : decode cX12_undo 12 = .ok (.iconst (-1), 1) := by decide +kernel
theorem dX12_undo_13 : decode cX12_undo 13 = .ok (.ireturn, 1) := by decide +kernel
theorem dX12_undo_14 : decode cX12_undo 14 = .ok (.aload_n 0, 1) := by decide +kernel
theorem dX12_undo_15 : decode cX12_undo 15 = .ok (.dup, 1) := by decide +kernel
theorem dX12_undo_16 : decode cX12_undo 16 = .ok (.getfield 147, 3) := by decide +kernel
theorem dX12_undo_19 : decode cX12_undo 19 = .ok (.iconst 1, 1) := by decide +kernel
theorem dX12_undo_20 : decode cX12_undo 20 = .ok (.isub, 1) := by decide +kernel
theorem dX12_undo_21 : decode cX12_undo 21 = .ok (.putfield 147, 3) := by decide +kernel
theorem dX12_undo_24 : decode cX12_undo 24 = .ok (.iconst 0, 1) := by decide +kernel
theorem dX12_undo_25 : decode cX12_undo 25 = .ok (.istore_n 1, 1) := by decide +kernel
theorem dX12_undo_26 : decode cX12_undo 26 = .ok (.iload_n 1, 1) := by decide +kernel
theorem dX12_undo_27 : decode cX12_undo 27 = .ok (.bipush 19, 2) := by decide +kernel
theorem dX12_undo_29 : decode cX12_undo 29 = .ok (.if_icmp .ge 29, 3) := by decide +kernel
theorem dX12_undo_32 : decode cX12_undo 32 = .ok (.aload_n 0, 1) := by decide +kernel
theorem dX12_undo_33 : decode cX12_undo 33 = .ok (.getfield 9, 3) := by decide +kernel
theorem dX12_undo_36 : decode cX12_undo 36 = .ok (.iload_n 1, 1) := by decide +kernel
theorem dX12_undo_37 : decode cX12_undo 37 = .ok (.aload_n 0, 1) := by decide +kernel
theorem dX12_undo_38 : decode cX12_undo 38 = .ok (.getfield 36, 3) := by decide +kernel
theorem dX12_undo_41 : decode cX12_undo 41 = .ok (.bipush 19, 2) := by decide +kernel
theorem dX12_undo_43 : decode cX12_undo 43 = .ok (.aload_n 0, 1) := by decide +kernel
theorem dX12_undo_44 : decode cX12_undo 44 = .ok (.getfield 147, 3) := by decide +kernel
theorem dX12_undo_47 : decode cX12_undo 47 = .ok (.imul, 1) := by decide +kernel
theorem dX12_undo_48 : decode cX12_undo 48 = .ok (.iload_n 1, 1) := by decide +kernel
theorem dX12_undo_49 : decode cX12_undo 49 = .ok (.iadd, 1) := by decide +kernel
theorem dX12_undo_50 : decode cX12_undo 50 = .ok (.iaload, 1) := by decide +kernel
theorem dX12_undo_51 : decode cX12_undo 51 = .ok (.iastore, 1) := by decide +kernel
theorem dX12_undo_52 : decode cX12_undo 52 = .ok (.iinc 1 1, 3) := by decide +kernel
theorem dX12_undo_55 : decode cX12_undo 55 = .ok (.goto (-29), 3) := by decide +kernel
theorem dX12_undo_58 : decode cX12_undo 58 = .ok (.aload_n 0, 1) := by decide +kernel
theorem dX12_undo_59 : decode cX12_undo 59 = .ok (.getfield 147, 3) := by decide +kernel
theorem dX12_undo_62 : decode cX12_undo 62 = .ok (.ireturn, 1) := by decide +kernel
theorem dX12_needs_0 : decode cX12_needs 0 = .ok (.aload_n 0, 1) := by decide +kernel
theorem dX12_needs_1 : decode cX12_needs 1 = .ok (.iconst 0, 1) := by decide +kernel
theorem dX12_needs_2 : decode cX12_needs 2 = .ok (.putfield 82, 3) := by decide +kernel
theorem dX12_needs_5 : decode cX12_needs 5 = .ok (.aload_n 0, 1) := by decide +kernel
theorem dX12_needs_6 : decode cX12_needs 6 = .ok (.getfield 9, 3) := by decide +kernel
theorem dX12_needs_9 : decode cX12_needs 9 = .ok (.invokestatic 240, 3) := by decide +kernel
theorem dX12_needs_12 : decode cX12_needs 12 = .ok (.ifCond .ne 6, 3) := by decide +kernel
theorem dX12_needs_15 : decode cX12_needs 15 = .ok (.bipush (-2), 2) := by decide +kernel
theorem dX12_needs_17 : decode cX12_needs 17 = .ok (.ireturn, 1) := by decide +kernel
theorem dX12_needs_18 : decode cX12_needs 18 = .ok (.aload_n 0, 1) := by decide +kernel
theorem dX12_needs_19 : decode cX12_needs 19 = .ok (.iconst 0, 1) := by decide +kernel
theorem dX12_needs_20 : decode cX12_needs 20 = .ok (.putfield 86, 3) := by decide +kernel
theorem dX12_needs_23 : decode cX12_needs 23 = .ok (.aload_n 0, 1) := by decide +kernel
theorem dX12_needs_24 : decode cX12_needs 24 = .ok (.aload_n 0, 1) := by decide +kernel
theorem dX12_needs_25 : decode cX12_needs 25 = .ok (.getfield 9, 3) := by decide +kernel
theorem dX12_needs_28 : decode cX12_needs 28 = .ok (.iconst 0, 1) := by decide +kernel
theorem dX12_needs_29 : decode cX12_needs 29 = .ok (.aload_n 0, 1) := by decide +kernel
theorem dX12_needs_30 : decode cX12_needs 30 = .ok (.getfield 9, 3) := by decide +kernel
theorem dX12_needs_33 : decode cX12_needs 33 = .ok (.iconst 0, 1) := by decide +kernel
theorem dX12_needs_34 : decode cX12_needs 34 = .ok (.invokestatic 234, 3) := by decide +kernel
theorem dX12_needs_37 : decode cX12_needs 37 = .ok (.invokestatic 191, 3) := by decide +kernel
theorem dX12_needs_40 : decode cX12_needs 40 = .ok (.i2l, 1) := by decide +kernel
theorem dX12_needs_41 : decode cX12_needs 41 = .ok (.invokevirtual 253, 3) := by decide +kernel
theorem dX12_needs_44 : decode cX12_needs 44 = .ok (.aload_n 0, 1) := by decide +kernel
theorem dX12_needs_45 : decode cX12_needs 45 = .ok (.aload_n 0, 1) := by decide +kernel
theorem dX12_needs_46 : decode cX12_needs 46 = .ok (.getfield 9, 3) := by decide +kernel
theorem dX12_needs_49 : decode cX12_needs 49 = .ok (.iconst 1, 1) := by decide +kernel
theorem dX12_needs_50 : decode cX12_needs 50 = .ok (.aload_n 0, 1) := by decide +kernel
theorem dX12_needs_51 : decode cX12_needs 51 = .ok (.getfield 9, 3) := by decide +kernel
theorem dX12_needs_54 : decode cX12_needs 54 = .ok (.iconst 1, 1) := by decide +kernel
theorem dX12_needs_55 : decode cX12_needs 55 = .ok (.invokestatic 234, 3) := by decide +kernel
theorem dX12_needs_58 : decode cX12_needs 58 = .ok (.invokestatic 191, 3) := by decide +kernel
theorem dX12_needs_61 : decode cX12_needs 61 = .ok (.i2l, 1) := by decide +kernel
theorem dX12_needs_62 : decode cX12_needs 62 = .ok (.invokevirtual 253, 3) := by decide +kernel
theorem dX12_needs_65 : decode cX12_needs 65 = .ok (.aload_n 0, 1) := by decide +kernel
theorem dX12_needs_66 : decode cX12_needs 66 = .ok (.getfield 9, 3) := by decide +kernel
theorem dX12_needs_69 : decode cX12_needs 69 = .ok (.invokestatic 243, 3) := by decide +kernel
theorem dX12_needs_72 : decode cX12_needs 72 = .ok (.ireturn, 1) := by decide +kernel
theorem dX12_later_0 : decode cX12_later 0 = .ok (.aload_n 0, 1) := by decide +kernel
theorem dX12_later_1 : decode cX12_later 1 = .ok (.iconst 0, 1) := by decide +kernel
theorem dX12_later_2 : decode cX12_later 2 = .ok (.putfield 82, 3) := by decide +kernel
theorem dX12_later_5 : decode cX12_later 5 = .ok (.iload_n 1, 1) := by decide +kernel
theorem dX12_later_6 : decode cX12_later 6 = .ok (.iconst 0, 1) := by decide +kernel
theorem dX12_later_7 : decode cX12_later 7 = .ok (.bipush 99, 2) := by decide +kernel
theorem dX12_later_9 : decode cX12_later 9 = .ok (.invokestatic 89, 3) := by decide +kernel
theorem dX12_later_12 : decode cX12_later 12 = .ok (.ifCond .ne 5, 3) := by decide +kernel
theorem dX12_later_15 : decode cX12_later 15 = .ok (.iconst (-1), 1) := by decide +kernel
theorem dX12_later_16 : decode cX12_later 16 = .ok (.ireturn, 1) := by decide +kernel
theorem dX12_later_17 : decode cX12_later 17 = .ok (.aload_n 0, 1) := by decide +kernel
theorem dX12_later_18 : decode cX12_later 18 = .ok (.getfield 9, 3) := by decide +kernel
theorem dX12_later_21 : decode cX12_later 21 = .ok (.aload_n 0, 1) := by decide +kernel
theorem dX12_later_22 : decode cX12_later 22 = .ok (.getfield 42, 3) := by decide +kernel
theorem dX12_later_25 : decode cX12_later 25 = .ok (.iconst 0, 1) := by decide +kernel
theorem dX12_later_26 : decode cX12_later 26 = .ok (.invokestatic 210, 3) := by decide +kernel
theorem dX12_later_29 : decode cX12_later 29 = .ok (.aload_n 0, 1) := by decide +kernel
theorem dX12_later_30 : decode cX12_later 30 = .ok (.aload_n 0, 1) := by decide +kernel
theorem dX12_later_31 : decode cX12_later 31 = .ok (.getfield 42, 3) := by decide +kernel
theorem dX12_later_34 : decode cX12_later 34 = .ok (.iload_n 1, 1) := by decide +kernel
theorem dX12_later_35 : decode cX12_later 35 = .ok (.invokevirtual 276, 3) := by decide +kernel
theorem dX12_later_38 : decode cX12_later 38 = .ok (.pop, 1) := by decide +kernel
theorem dX12_later_39 : decode cX12_later 39 = .ok (.aload_n 0, 1) := by decide +kernel
theorem dX12_later_40 : decode cX12_later 40 = .ok (.iconst 0, 1) := by decide +kernel
theorem dX12_later_41 : decode cX12_later 41 = .ok (.putfield 86, 3) := by decide +kernel
theorem dX12_later_44 : decode cX12_later 44 = .ok (.aload_n 0, 1) := by decide +kernel
theorem dX12_later_45 : decode cX12_later 45 = .ok (.aload_n 0, 1) := by decide +kernel
theorem dX12_later_46 : decode cX12_later 46 = .ok (.getfield 42, 3) := by decide +kernel
theorem dX12_later_49 : decode cX12_later 49 = .ok (.bipush 15, 2) := by decide +kernel
theorem dX12_later_51 : decode cX12_later 51 = .ok (.iaload, 1) := by decide +kernel
theorem dX12_later_52 : decode cX12_later 52 = .ok (.i2l, 1) := by decide +kernel
theorem dX12_later_53 : decode cX12_later 53 = .ok (.invokevirtual 253, 3) := by decide +kernel
theorem dX12_later_56 : decode cX12_later 56 = .ok (.aload_n 0, 1) := by decide +kernel
theorem dX12_later_57 : decode cX12_later 57 = .ok (.aload_n 0, 1) := by decide +kernel
theorem dX12_later_58 : decode cX12_later 58 = .ok (.getfield 42, 3) := by decide +kernel
theorem dX12_later_61 : decode cX12_later 61 = .ok (.bipush 16, 2) := by decide +kernel
theorem dX12_later_63 : decode cX12_later 63 = .ok (.iaload, 1) := by decide +kernel
theorem dX12_later_64 : decode cX12_later 64 = .ok (.i2l, 1) := by decide +kernel
theorem dX12_later_65 : decode cX12_later 65 = .ok (.invokevirtual 253, 3) := by decide +kernel
theorem dX12_later_68 : decode cX12_later 68 = .ok (.aload_n 0, 1) := by decide +kernel
theorem dX12_later_69 : decode cX12_later 69 = .ok (.aload_n 0, 1) := by decide +kernel
theorem dX12_later_70 : decode cX12_later 70 = .ok (.getfield 42, 3) := by decide +kernel
theorem dX12_later_73 : decode cX12_later 73 = .ok (.bipush 10, 2) := by decide +kernel
theorem dX12_later_75 : decode cX12_later 75 = .ok (.iaload, 1) := by decide +kernel
theorem dX12_later_76 : decode cX12_later 76 = .ok (.i2l, 1) := by decide +kernel
theorem dX12_later_77 : decode cX12_later 77 = .ok (.invokevirtual 253, 3) := by decide +kernel
theorem dX12_later_80 : decode cX12_later 80 = .ok (.aload_n 0, 1) := by decide +kernel
theorem dX12_later_81 : decode cX12_later 81 = .ok (.aload_n 0, 1) := by decide +kernel
theorem dX12_later_82 : decode cX12_later 82 = .ok (.getfield 42, 3) := by decide +kernel
theorem dX12_later_85 : decode cX12_later 85 = .ok (.bipush 11, 2) := by decide +kernel
theorem dX12_later_87 : decode cX12_later 87 = .ok (.iaload, 1) := by decide +kernel
theorem dX12_later_88 : decode cX12_later 88 = .ok (.i2l, 1) := by decide +kernel
theorem dX12_later_89 : decode cX12_later 89 = .ok (.invokevirtual 253, 3) := by decide +kernel
theorem dX12_later_92 : decode cX12_later 92 = .ok (.aload_n 0, 1) := by decide +kernel
theorem dX12_later_93 : decode cX12_later 93 = .ok (.getfield 42, 3) := by decide +kernel
theorem dX12_later_96 : decode cX12_later 96 = .ok (.bipush 14, 2) := by decide +kernel
theorem dX12_later_98 : decode cX12_later 98 = .ok (.iaload, 1) := by decide +kernel
theorem dX12_later_99 : decode cX12_later 99 = .ok (.ireturn, 1) := by decide +kernel
theorem dX12_done_0 : decode cX12_done 0 = .ok (.aload_n 0, 1) := by decide +kernel
theorem dX12_done_1 : decode cX12_done 1 = .ok (.iconst 0, 1) := by decide +kernel
theorem dX12_done_2 : decode cX12_done 2 = .ok (.putfield 82, 3) := by decide +kernel
theorem dX12_done_5 : decode cX12_done 5 = .ok (.aload_n 0, 1) := by decide +kernel
theorem dX12_done_6 : decode cX12_done 6 = .ok (.getfield 9, 3) := by decide +kernel
theorem dX12_done_9 : decode cX12_done 9 = .ok (.aload_n 0, 1) := by decide +kernel
theorem dX12_done_10 : decode cX12_done 10 = .ok (.getfield 42, 3) := by decide +kernel
theorem dX12_done_13 : decode cX12_done 13 = .ok (.iconst 0, 1) := by decide +kernel
theorem dX12_done_14 : decode cX12_done 14 = .ok (.invokestatic 210, 3) := by decide +kernel
theorem dX12_done_17 : decode cX12_done 17 = .ok (.iconst 0, 1) := by decide +kernel
theorem dX12_done_18 : decode cX12_done 18 = .ok (.istore_n 1, 1) := by decide +kernel
theorem dX12_done_19 : decode cX12_done 19 = .ok (.iconst 0, 1) := by decide +kernel
theorem dX12_done_20 : decode cX12_done 20 = .ok (.istore_n 2, 1) := by decide +kernel
theorem dX12_done_21 : decode cX12_done 21 = .ok (.iload_n 2, 1) := by decide +kernel
theorem dX12_done_22 : decode cX12_done 22 = .ok (.bipush 99, 2) := by decide +kernel
theorem dX12_done_24 : decode cX12_done 24 = .ok (.if_icmp .gt 63, 3) := by decide +kernel
theorem dX12_done_27 : decode cX12_done 27 = .ok (.aload_n 0, 1) := by decide +kernel
theorem dX12_done_28 : decode cX12_done 28 = .ok (.getfield 42, 3) := by decide +kernel
theorem dX12_done_31 : decode cX12_done 31 = .ok (.invokestatic 240, 3) := by decide +kernel
theorem dX12_done_34 : decode cX12_done 34 = .ok (.ifCond .ne 28, 3) := by decide +kernel
theorem dX12_done_37 : decode cX12_done 37 = .ok (.aload_n 0, 1) := by decide +kernel
theorem dX12_done_38 : decode cX12_done 38 = .ok (.iconst 0, 1) := by decide +kernel
theorem dX12_done_39 : decode cX12_done 39 = .ok (.putfield 86, 3) := by decide +kernel
theorem dX12_done_42 : decode cX12_done 42 = .ok (.aload_n 0, 1) := by decide +kernel
theorem dX12_done_43 : decode cX12_done 43 = .ok (.aload_n 0, 1) := by decide +kernel
theorem dX12_done_44 : decode cX12_done 44 = .ok (.getfield 42, 3) := by decide +kernel
theorem dX12_done_47 : decode cX12_done 47 = .ok (.bipush 14, 2) := by decide +kernel
theorem dX12_done_49 : decode cX12_done 49 = .ok (.iaload, 1) := by decide +kernel
theorem dX12_done_50 : decode cX12_done 50 = .ok (.i2l, 1) := by decide +kernel
theorem dX12_done_51 : decode cX12_done 51 = .ok (.invokevirtual 253, 3) := by decide +kernel
theorem dX12_done_54 : decode cX12_done 54 = .ok (.aload_n 0, 1) := by decide +kernel
theorem dX12_done_55 : decode cX12_done 55 = .ok (.iload_n 1, 1) := by decide +kernel
theorem dX12_done_56 : decode cX12_done 56 = .ok (.i2l, 1) := by decide +kernel
theorem dX12_done_57 : decode cX12_done 57 = .ok (.invokevirtual 253, 3) := by decide +kernel
theorem dX12_done_60 : decode cX12_done 60 = .ok (.iload_n 2, 1) := by decide +kernel
theorem dX12_done_61 : decode cX12_done 61 = .ok (.ireturn, 1) := by decide +kernel
theorem dX12_done_62 : decode cX12_done 62 = .ok (.iload_n 1, 1) := by decide +kernel
theorem dX12_done_63 : decode cX12_done 63 = .ok (.aload_n 0, 1) := by decide +kernel
theorem dX12_done_64 : decode cX12_done 64 = .ok (.aload_n 0, 1) := by decide +kernel
theorem dX12_done_65 : decode cX12_done 65 = .ok (.getfield 42, 3) := by decide +kernel
theorem dX12_done_68 : decode cX12_done 68 = .ok (.invokevirtual 273, 3) := by decide +kernel
theorem dX12_done_71 : decode cX12_done 71 = .ok (.ifCond .eq 7, 3) := by decide +kernel
theorem dX12_done_74 : decode cX12_done 74 = .ok (.iconst 1, 1) := by decide +kernel
theorem dX12_done_75 : decode cX12_done 75 = .ok (.goto 4, 3) := by decide +kernel
theorem dX12_done_78 : decode cX12_done 78 = .ok (.iconst 0, 1) := by decide +kernel
theorem dX12_done_79 : decode cX12_done 79 = .ok (.iadd, 1) := by decide +kernel
theorem dX12_done_80 : decode cX12_done 80 = .ok (.istore_n 1, 1) := by decide +kernel
theorem dX12_done_81 : decode cX12_done 81 = .ok (.iinc 2 1, 3) := by decide +kernel
theorem dX12_done_84 : decode cX12_done 84 = .ok (.goto (-63), 3) := by decide +kernel
theorem dX12_done_87 : decode cX12_done 87 = .ok (.bipush (-2), 2) := by decide +kernel
theorem dX12_done_89 : decode cX12_done 89 = .ok (.ireturn, 1) := by decide +kernel
theorem dX12_dry_0 : decode cX12_dry 0 = .ok (.aload_n 0, 1) := by decide +kernel
theorem dX12_dry_1 : decode cX12_dry 1 = .ok (.iconst 0, 1) := by decide +kernel
theorem dX12_dry_2 : decode cX12_dry 2 = .ok (.putfield 82, 3) := by decide +kernel
theorem dX12_dry_5 : decode cX12_dry 5 = .ok (.iload_n 1, 1) := by decide +kernel
theorem dX12_dry_6 : decode cX12_dry 6 = .ok (.iconst 0, 1) := by decide +kernel
theorem dX12_dry_7 : decode cX12_dry 7 = .ok (.sipush 999, 3) := by decide +kernel
theorem dX12_dry_10 : decode cX12_dry 10 = .ok (.invokestatic 89, 3) := by decide +kernel
theorem dX12_dry_13 : decode cX12_dry 13 = .ok (.ifCond .ne 5, 3) := by decide +kernel
theorem dX12_dry_16 : decode cX12_dry 16 = .ok (.iconst (-1), 1) := by decide +kernel
theorem dX12_dry_17 : decode cX12_dry 17 = .ok (.ireturn, 1) := by decide +kernel
theorem dX12_dry_18 : decode cX12_dry 18 = .ok (.aload_n 0, 1) := by decide +kernel
theorem dX12_dry_19 : decode cX12_dry 19 = .ok (.getfield 9, 3) := by decide +kernel
theorem dX12_dry_22 : decode cX12_dry 22 = .ok (.aload_n 0, 1) := by decide +kernel
theorem dX12_dry_23 : decode cX12_dry 23 = .ok (.getfield 42, 3) := by decide +kernel
theorem dX12_dry_26 : decode cX12_dry 26 = .ok (.iconst 0, 1) := by decide +kernel
theorem dX12_dry_27 : decode cX12_dry 27 = .ok (.invokestatic 210, 3) := by decide +kernel
theorem dX12_dry_30 : decode cX12_dry 30 = .ok (.iconst 0, 1) := by decide +kernel
theorem dX12_dry_31 : decode cX12_dry 31 = .ok (.istore_n 2, 1) := by decide +kernel
theorem dX12_dry_32 : decode cX12_dry 32 = .ok (.iload_n 2, 1) := by decide +kernel
theorem dX12_dry_33 : decode cX12_dry 33 = .ok (.bipush 99, 2) := by decide +kernel
theorem dX12_dry_35 : decode cX12_dry 35 = .ok (.if_icmp .gt 48, 3) := by decide +kernel
theorem dX12_dry_38 : decode cX12_dry 38 = .ok (.aload_n 0, 1) := by decide +kernel
theorem dX12_dry_39 : decode cX12_dry 39 = .ok (.getfield 42, 3) := by decide +kernel
theorem dX12_dry_42 : decode cX12_dry 42 = .ok (.bipush 14, 2) := by decide +kernel
theorem dX12_dry_44 : decode cX12_dry 44 = .ok (.iaload, 1) := by decide +kernel
theorem dX12_dry_45 : decode cX12_dry 45 = .ok (.iload_n 1, 1) := by decide +kernel
theorem dX12_dry_46 : decode cX12_dry 46 = .ok (.if_icmp .ge 22, 3) := by decide +kernel
theorem dX12_dry_49 : decode cX12_dry 49 = .ok (.aload_n 0, 1) := by decide +kernel
theorem dX12_dry_50 : decode cX12_dry 50 = .ok (.iconst 0, 1) := by decide +kernel
theorem dX12_dry_51 : decode cX12_dry 51 = .ok (.putfield 86, 3) := by decide +kernel
theorem dX12_dry_54 : decode cX12_dry 54 = .ok (.aload_n 0, 1) := by decide +kernel
theorem dX12_dry_55 : decode cX12_dry 55 = .ok (.aload_n 0, 1) := by decide +kernel
theorem dX12_dry_56 : decode cX12_dry 56 = .ok (.getfield 42, 3) := by decide +kernel
theorem dX12_dry_59 : decode cX12_dry 59 = .ok (.bipush 14, 2) := by decide +kernel
theorem dX12_dry_61 : decode cX12_dry 61 = .ok (.iaload, 1) := by decide +kernel
theorem dX12_dry_62 : decode cX12_dry 62 = .ok (.i2l, 1) := by decide +kernel
theorem dX12_dry_63 : decode cX12_dry 63 = .ok (.invokevirtual 253, 3) := by decide +kernel
theorem dX12_dry_66 : decode cX12_dry 66 = .ok (.iload_n 2, 1) := by decide +kernel
theorem dX12_dry_67 : decode cX12_dry 67 = .ok (.ireturn, 1) := by decide +kernel
theorem dX12_dry_68 : decode cX12_dry 68 = .ok (.aload_n 0, 1) := by decide +kernel
theorem dX12_dry_69 : decode cX12_dry 69 = .ok (.aload_n 0, 1) := by decide +kernel
theorem dX12_dry_70 : decode cX12_dry 70 = .ok (.getfield 42, 3) := by decide +kernel
theorem dX12_dry_73 : decode cX12_dry 73 = .ok (.invokevirtual 273, 3) := by decide +kernel
theorem dX12_dry_76 : decode cX12_dry 76 = .ok (.pop, 1) := by decide +kernel
theorem dX12_dry_77 : decode cX12_dry 77 = .ok (.iinc 2 1, 3) := by decide +kernel
theorem dX12_dry_80 : decode cX12_dry 80 = .ok (.goto (-48), 3) := by decide +kernel
theorem dX12_dry_83 : decode cX12_dry 83 = .ok (.bipush (-2), 2) := by decide +kernel
theorem dX12_dry_85 : decode cX12_dry 85 = .ok (.ireturn, 1) := by decide +kernel
theorem dX12_when_0 : decode cX12_when 0 = .ok (.aload_n 0, 1) := by decide +kernel
theorem dX12_when_1 : decode cX12_when 1 = .ok (.iconst 0, 1) := by decide +kernel
theorem dX12_when_2 : decode cX12_when 2 = .ok (.putfield 82, 3) := by decide +kernel
theorem dX12_when_5 : decode cX12_when 5 = .ok (.aload_n 0, 1) := by decide +kernel
theorem dX12_when_6 : decode cX12_when 6 = .ok (.iload_n 1, 1) := by decide +kernel
theorem dX12_when_7 : decode cX12_when 7 = .ok (.iload_n 2, 1) := by decide +kernel
theorem dX12_when_8 : decode cX12_when 8 = .ok (.invokevirtual 204, 3) := by decide +kernel
theorem dX12_when_11 : decode cX12_when 11 = .ok (.ifCond .ne 5, 3) := by decide +kernel
theorem dX12_when_14 : decode cX12_when 14 = .ok (.iconst (-1), 1) := by decide +kernel
theorem dX12_when_15 : decode cX12_when 15 = .ok (.ireturn, 1) := by decide +kernel
theorem dX12_when_16 : decode cX12_when 16 = .ok (.aload_n 0, 1) := by decide +kernel
theorem dX12_when_17 : decode cX12_when 17 = .ok (.getfield 9, 3) := by decide +kernel
theorem dX12_when_20 : decode cX12_when 20 = .ok (.aload_n 0, 1) := by decide +kernel
theorem dX12_when_21 : decode cX12_when 21 = .ok (.getfield 42, 3) := by decide +kernel
theorem dX12_when_24 : decode cX12_when 24 = .ok (.iconst 0, 1) := by decide +kernel
theorem dX12_when_25 : decode cX12_when 25 = .ok (.invokestatic 210, 3) := by decide +kernel
theorem dX12_when_28 : decode cX12_when 28 = .ok (.iload_n 2, 1) := by decide +kernel
theorem dX12_when_29 : decode cX12_when 29 = .ok (.istore_n 3, 1) := by decide +kernel
theorem dX12_when_30 : decode cX12_when 30 = .ok (.iconst 0, 1) := by decide +kernel
theorem dX12_when_31 : decode cX12_when 31 = .ok (.istore 4, 2) := by decide +kernel
theorem dX12_when_33 : decode cX12_when 33 = .ok (.iconst 1, 1) := by decide +kernel
theorem dX12_when_34 : decode cX12_when 34 = .ok (.istore 5, 2) := by decide +kernel
theorem dX12_when_36 : decode cX12_when 36 = .ok (.iload 5, 2) := by decide +kernel
theorem dX12_when_38 : decode cX12_when 38 = .ok (.bipush 99, 2) := by decide +kernel
theorem dX12_when_40 : decode cX12_when 40 = .ok (.if_icmp .gt 74, 3) := by decide +kernel
theorem dX12_when_43 : decode cX12_when 43 = .ok (.aload_n 0, 1) := by decide +kernel
theorem dX12_when_44 : decode cX12_when 44 = .ok (.getfield 42, 3) := by decide +kernel
theorem dX12_when_47 : decode cX12_when 47 = .ok (.bipush 12, 2) := by decide +kernel
theorem dX12_when_49 : decode cX12_when 49 = .ok (.iaload, 1) := by decide +kernel
theorem dX12_when_50 : decode cX12_when 50 = .ok (.aload_n 0, 1) := by decide +kernel
theorem dX12_when_51 : decode cX12_when 51 = .ok (.getfield 42, 3) := by decide +kernel
theorem dX12_when_54 : decode cX12_when 54 = .ok (.bipush 10, 2) := by decide +kernel
theorem dX12_when_56 : decode cX12_when 56 = .ok (.iload_n 1, 1) := by decide +kernel
theorem dX12_when_57 : decode cX12_when 57 = .ok (.iadd, 1) := by decide +kernel
theorem dX12_when_58 : decode cX12_when 58 = .ok (.iaload, 1) := by decide +kernel
theorem dX12_when_59 : decode cX12_when 59 = .ok (.invokestatic 195, 3) := by decide +kernel
theorem dX12_when_62 : decode cX12_when 62 = .ok (.istore 6, 2) := by decide +kernel
theorem dX12_when_64 : decode cX12_when 64 = .ok (.aload_n 0, 1) := by decide +kernel
theorem dX12_when_65 : decode cX12_when 65 = .ok (.aload_n 0, 1) := by decide +kernel
theorem dX12_when_66 : decode cX12_when 66 = .ok (.getfield 42, 3) := by decide +kernel
theorem dX12_when_69 : decode cX12_when 69 = .ok (.invokevirtual 273, 3) := by decide +kernel
theorem dX12_when_72 : decode cX12_when 72 = .ok (.ifCond .ne 9, 3) := by decide +kernel
theorem dX12_when_75 : decode cX12_when 75 = .ok (.iinc 4 1, 3) := by decide +kernel
theorem dX12_when_78 : decode cX12_when 78 = .ok (.goto 30, 3) := by decide +kernel
theorem dX12_when_81 : decode cX12_when 81 = .ok (.iload_n 3, 1) := by decide +kernel
theorem dX12_when_82 : decode cX12_when 82 = .ok (.iload 6, 2) := by decide +kernel
